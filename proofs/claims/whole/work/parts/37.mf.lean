def J_X7_livingShare_35  (post : UInt32 → St → Prop)  (t0 : UInt32) (g : St) : Prop := post t0 g
def J_X7_livingShare_13  (post : UInt32 → St → Prop)  (t0 : Int32) (g : St) : Prop := V_X7_no t0 1 g (fun r2 g1 => ((r2 = 0 → V_X7_living g1 (fun r4 g3 => vf_n32 (FP.fdiv (FP.i2f r4) (FP.i2f (g3.2 2))) ∧ (J_X7_livingShare_35 post (FP.fdiv (FP.i2f r4) (FP.i2f (g3.2 2))) g3))) ∧ (¬ r2 = 0 → J_X7_livingShare_35 post FP.fconst0 g1)))
def V_X7_livingShare  (g : St) (post : UInt32 → St → Prop) : Prop := (((g.2 2) ≤ 0 → J_X7_livingShare_13 post 0 g) ∧ (¬ (g.2 2) ≤ 0 → J_X7_livingShare_13 post 1 g))
abbrev rm_X7_livingShare : Room := { frames := 1, cells := 0, slots := 0, locals := 22 }
set_option maxHeartbeats 4000000 in
set_option maxRecDepth 100000 in
theorem c_X7_livingShare (l : Launch) (D : va_G) (cs az a : Nat → Nat)  (g : St) (post : UInt32 → St → Prop) (hv : V_X7_livingShare  g post) : uMf l yX7_livingShare wsX7_livingShare rm_X7_livingShare D cs az (mW cs a) [.ref (a 0)] g post := by
  refine u_ofF (cc := cX7_livingShare) (maxL := 1) (by decide) rfl (Nat.le_of_ble_eq_true rfl) ?_
  intro p e s m args below meth c F ls hC hr hk hl hE
  have hx := hC.1.1; have hb := hC.1.2.1; have hml := hC.1.2.2.1; have hts := hC.1.2.2.2.2
  have hown : s.vm.findClass RX7 = some m.cls := hC.1.2.2.2.1
  have hl : lv_has ls 1 [(0, .ref (a 0))] := hl
  unfold V_X7_livingShare at hv
  have j_35 : ∀ (t0 : UInt32) (g : St), J_X7_livingShare_35 post t0 g → ∀ (H : Heap) (locs : List Loc) (ls : Array Slot), uE D 16 mA (mO a) cs a F s g H locs → lv_has ls 1 [] → W p l e rm_X7_livingShare s m args below meth c H locs 0 0 (MQ below (va_Qf post (uB D (uW 16 mA (mO a) cs a)) F) args s 0 0 F) (F0 m 35 ls [.float t0]) := by
    intro  t0 g  hv
    intro H locs ls hE hl
    unfold J_X7_livingShare_35 at hv
    exact G_fret hC hr hk hE hv dX7_livingShare_35
  have j_13 : ∀ (t0 : Int32) (g : St), J_X7_livingShare_13 post t0 g → ∀ (H : Heap) (locs : List Loc) (ls : Array Slot), uE D 16 mA (mO a) cs a F s g H locs → lv_has ls 1 [(0, .ref (a 0))] → W p l e rm_X7_livingShare s m args below meth c H locs 0 0 (MQ below (va_Qf post (uB D (uW 16 mA (mO a) cs a)) F) args s 0 0 F) (F0 m 13 ls [.int t0, .ref (a 0)]) := by
    intro  t0 g  hv
    intro H locs ls hE hl
    unfold J_X7_livingShare_13 at hv
    refine lv_iconst (v := 1) hx hb dX7_livingShare_13 (by decide) ?_
    refine G_callVi hC (c_X7_no l D cs az a t0 1 g _ hv) (cwV 2 hts gX7_livingShare_X7_no rfl rfl rfl (by decide +kernel) ⟨Nat.le_of_ble_eq_true rfl, Nat.le_of_ble_eq_true rfl⟩) f_model rfl rfl hl rfl (Nat.le_of_ble_eq_true rfl) dX7_livingShare_14 hE (fun r2 g1 H locs hv hE => ?_)
    refine lv_if_eq (tgt := 24) hx hb dX7_livingShare_17 (by decide) (fun c => ?_) (fun c => ?_)
    · have hv := hv.1 c
      refine lv_aload_n hx hb dX7_livingShare_24 rfl (lv_at hl 0 rfl) ?_
      refine G_callVi hC (c_X7_living l D cs az a  g1 _ hv) (cwV 0 hts gX7_livingShare_X7_living rfl rfl rfl (by decide +kernel) ⟨Nat.le_of_ble_eq_true rfl, Nat.le_of_ble_eq_true rfl⟩) f_model rfl rfl hl rfl (Nat.le_of_ble_eq_true rfl) dX7_livingShare_25 hE (fun r4 g3 H locs hv hE => ?_)
      refine lv_i2f hx hb dX7_livingShare_28 ?_
      refine lv_aload_n hx hb dX7_livingShare_29 rfl (lv_at hl 0 rfl) ?_
      refine G_get (v := .int (g3.2 2)) hC hE (fun _ h => List.mem_cons_of_mem _ (List.mem_append_left _ (List.mem_append_right _ h))) f_model rfl 17 (by decide) (hts (.fieldLink RX7 65 "SeedBattleModel" "units" "I") (List.mem_of_getElem? (i := 1) rfl)) rfl dX7_livingShare_30 ?_
      refine lv_i2f hx hb dX7_livingShare_33 ?_
      refine lv_fdiv hx hb dX7_livingShare_34 hv.1 ?_
      have hv := hv.2
      exact j_35  _ _  hv _ _ _ hE (lv_sub hl [] rfl)
    · have hv := hv.2 c
      refine lv_fconst0 hx hb dX7_livingShare_20 ?_
      refine lv_goto (tgt := 35) hx hb dX7_livingShare_21 (by decide) ?_
      exact j_35  _ _  hv _ _ _ hE (lv_sub hl [] rfl)
  refine lv_aload_n hx hb dX7_livingShare_0 rfl (lv_at hl 0 rfl) ?_
  refine lv_aload_n hx hb dX7_livingShare_1 rfl (lv_at hl 0 rfl) ?_
  refine G_get (v := .int (g.2 2)) hC hE (fun _ h => List.mem_cons_of_mem _ (List.mem_append_left _ (List.mem_append_right _ h))) f_model rfl 17 (by decide) (hts (.fieldLink RX7 65 "SeedBattleModel" "units" "I") (List.mem_of_getElem? (i := 1) rfl)) rfl dX7_livingShare_2 ?_
  refine lv_if_le (tgt := 12) hx hb dX7_livingShare_5 (by decide) (fun c => ?_) (fun c => ?_)
  · have hv := hv.1 c
    refine lv_iconst (v := 0) hx hb dX7_livingShare_12 (by decide) ?_
    exact j_13  _ _  hv _ _ _ hE (lv_sub hl [0] rfl)
  · have hv := hv.2 c
    refine lv_iconst (v := 1) hx hb dX7_livingShare_8 (by decide) ?_
    refine lv_goto (tgt := 13) hx hb dX7_livingShare_9 (by decide) ?_
    exact j_13  _ _  hv _ _ _ hE (lv_sub hl [0] rfl)
def J_X7_meanAge_89  (post : UInt64 → St → Prop)  (t0 : UInt64) (g : St) : Prop := post t0 g
def J_X7_meanAge_73  (post : UInt64 → St → Prop)  (v1 : Int32) (v2 : Int32) (t0 : Int32) (g : St) : Prop := V_X7_no t0 1 g (fun r3 g2 => ((r3 = 0 → vf_n64 (FP.ddiv (FP.i2d v1) (FP.i2d v2)) ∧ (J_X7_meanAge_89 post (FP.ddiv (FP.i2d v1) (FP.i2d v2)) g2)) ∧ (¬ r3 = 0 → J_X7_meanAge_89 post FP.dconst0 g2)))
def J_X7_meanAge_14  (post : UInt64 → St → Prop) (K6 : (Int32 × Int32 × Int32 × St) → Prop) (K14 : (Int32 × Int32 × Int32 × Int32 × St) → Prop) (v1 : Int32) (v2 : Int32) (v3 : Int32) (v4 : Int32) (g : St) : Prop := vp_in v3 4 ∧ ((((g.1 10 (Int32.toNatClampNeg v3)) ≤ v4 → K6 (v1, v2, (v3 + 1), g)) ∧ (¬ (g.1 10 (Int32.toNatClampNeg v3)) ≤ v4 → vp_in ((61 * v3) + v4) 244 ∧ (V_X7_turnOf (g.1 9 (Int32.toNatClampNeg ((61 * v3) + v4))) (fun r1 => K14 ((v1 + ((g.2 3) - r1)), (v2 + 1), v3, (v4 + 1), g))))))
def J_X7_meanAge_6  (post : UInt64 → St → Prop) (K6 : (Int32 × Int32 × Int32 × St) → Prop) (v1 : Int32) (v2 : Int32) (v3 : Int32) (g : St) : Prop := ((4 ≤ v3 → ((v2 ≤ 0 → J_X7_meanAge_73 post v1 v2 0 g) ∧ (¬ v2 ≤ 0 → J_X7_meanAge_73 post v1 v2 1 g))) ∧ (¬ 4 ≤ v3 → lpP (fun K14 (z : Int32 × Int32 × Int32 × Int32 × St) => J_X7_meanAge_14 post K6 K14 z.1 z.2.1 z.2.2.1 z.2.2.2.1 z.2.2.2.2) (v1, v2, v3, 0, g)))
def V_X7_meanAge  (g : St) (post : UInt64 → St → Prop) : Prop := lpP (fun K6 (z : Int32 × Int32 × Int32 × St) => J_X7_meanAge_6 post K6 z.1 z.2.1 z.2.2.1 z.2.2.2) (0, 0, 0, g)
abbrev rm_X7_meanAge : Room := { frames := 1, cells := 0, slots := 0, locals := 22 }
set_option maxHeartbeats 4000000 in
set_option maxRecDepth 100000 in
theorem c_X7_meanAge (l : Launch) (D : va_G) (cs az a : Nat → Nat)  (g : St) (post : UInt64 → St → Prop) (hv : V_X7_meanAge  g post) : uMd l yX7_meanAge wsX7_meanAge rm_X7_meanAge D cs az (mW cs a) [.ref (a 0)] g post := by
  refine u_ofD (cc := cX7_meanAge) (maxL := 5) (by decide) rfl (Nat.le_of_ble_eq_true rfl) ?_
  intro p e s m args below meth c F ls hC hr hk hl hE
  have hx := hC.1.1; have hb := hC.1.2.1; have hml := hC.1.2.2.1; have hts := hC.1.2.2.2.2
  have hown : s.vm.findClass RX7 = some m.cls := hC.1.2.2.2.1
  have hl : lv_has ls 5 [(0, .ref (a 0))] := hl
  unfold V_X7_meanAge at hv
  have j_89 : ∀ (t0 : UInt64) (g : St), J_X7_meanAge_89 post t0 g → ∀ (H : Heap) (locs : List Loc) (ls : Array Slot), uE D 16 mA (mO a) cs a F s g H locs → lv_has ls 5 [] → W p l e rm_X7_meanAge s m args below meth c H locs 0 0 (MQ below (va_Qd post (uB D (uW 16 mA (mO a) cs a)) F) args s 0 0 F) (F0 m 89 ls [.double t0]) := by
    intro  t0 g  hv
    intro H locs ls hE hl
    unfold J_X7_meanAge_89 at hv
    exact G_dret hC hr hk hE hv dX7_meanAge_89
  have j_73 : ∀ (v1 : Int32) (v2 : Int32) (t0 : Int32) (g : St), J_X7_meanAge_73 post v1 v2 t0 g → ∀ (H : Heap) (locs : List Loc) (ls : Array Slot), uE D 16 mA (mO a) cs a F s g H locs → lv_has ls 5 [(1, .int v1), (2, .int v2)] → W p l e rm_X7_meanAge s m args below meth c H locs 0 0 (MQ below (va_Qd post (uB D (uW 16 mA (mO a) cs a)) F) args s 0 0 F) (F0 m 73 ls [.int t0, .ref (a 0)]) := by
    intro  v1 v2 t0 g  hv
    intro H locs ls hE hl
    unfold J_X7_meanAge_73 at hv
    refine lv_iconst (v := 1) hx hb dX7_meanAge_73 (by decide) ?_
    refine G_callVi hC (c_X7_no l D cs az a t0 1 g _ hv) (cwV 2 hts gX7_meanAge_X7_no rfl rfl rfl (by decide +kernel) ⟨Nat.le_of_ble_eq_true rfl, Nat.le_of_ble_eq_true rfl⟩) f_model rfl rfl hl rfl (Nat.le_of_ble_eq_true rfl) dX7_meanAge_74 hE (fun r3 g2 H locs hv hE => ?_)
    refine lv_if_eq (tgt := 84) hx hb dX7_meanAge_77 (by decide) (fun c => ?_) (fun c => ?_)
    · have hv := hv.1 c
      refine lv_iload_n hx hb dX7_meanAge_84 rfl (lv_at hl 0 rfl) ?_
      refine lv_i2d hx hb dX7_meanAge_85 ?_
      refine lv_iload_n hx hb dX7_meanAge_86 rfl (lv_at hl 1 rfl) ?_
      refine lv_i2d hx hb dX7_meanAge_87 ?_
      refine lv_ddiv hx hb dX7_meanAge_88 hv.1 ?_
      have hv := hv.2
      exact j_89  _ _  hv _ _ _ hE (lv_sub hl [] rfl)
    · have hv := hv.2 c
      refine lv_dconst0 hx hb dX7_meanAge_80 ?_
      refine lv_goto (tgt := 89) hx hb dX7_meanAge_81 (by decide) ?_
      exact j_89  _ _  hv _ _ _ hE (lv_sub hl [] rfl)
  have j_14 : ∀ (K6 : (Int32 × Int32 × Int32 × St) → Prop), (∀ (v1 : Int32) (v2 : Int32) (v3 : Int32) (g : St), K6 (v1, v2, v3, g) → ∀ (H : Heap) (locs : List Loc) (ls : Array Slot), uE D 16 mA (mO a) cs a F s g H locs → lv_has ls 5 [(0, .ref (a 0)), (1, .int v1), (2, .int v2), (3, .int v3)] → W p l e rm_X7_meanAge s m args below meth c H locs 0 0 (MQ below (va_Qd post (uB D (uW 16 mA (mO a) cs a)) F) args s 0 0 F) (F0 m 6 ls [])) → ∀ (v1 : Int32) (v2 : Int32) (v3 : Int32) (v4 : Int32) (g : St), lpP (fun K14 (z : Int32 × Int32 × Int32 × Int32 × St) => J_X7_meanAge_14 post K6 K14 z.1 z.2.1 z.2.2.1 z.2.2.2.1 z.2.2.2.2) (v1, v2, v3, v4, g) → ∀ (H : Heap) (locs : List Loc) (ls : Array Slot), uE D 16 mA (mO a) cs a F s g H locs → lv_has ls 5 [(0, .ref (a 0)), (1, .int v1), (2, .int v2), (3, .int v3), (4, .int v4)] → W p l e rm_X7_meanAge s m args below meth c H locs 0 0 (MQ below (va_Qd post (uB D (uW 16 mA (mO a) cs a)) F) args s 0 0 F) (F0 m 14 ls []) := by
    intro K6 hK6 v1 v2 v3 v4 g  hv
    obtain ⟨nn, hv⟩ := hv
    induction nn generalizing v1 v2 v3 v4 g with
    | zero => exact False.elim hv
    | succ nn hK14 =>
      intro H locs ls hE hl
      have hv : J_X7_meanAge_14 post K6 (itP _ nn) v1 v2 v3 v4 g := hv
      unfold J_X7_meanAge_14 at hv
      refine lv_iload hx hb dX7_meanAge_14 (lv_at hl 4 rfl) ?_
      refine lv_aload_n hx hb dX7_meanAge_16 rfl (lv_at hl 0 rfl) ?_
      refine G_get (v := .ref (a 10)) hC hE (fun _ h => List.mem_cons_of_mem _ (List.mem_append_left _ (List.mem_append_right _ h))) f_model rfl 9 (by decide) (hts (.fieldLink RX7 39 "SeedBattleModel" "size" "[I") (List.mem_of_getElem? (i := 1) rfl)) rfl dX7_meanAge_17 ?_
      refine lv_iload_n hx hb dX7_meanAge_20 rfl (lv_at hl 3 rfl) ?_
      refine G_iald hC hE f_m_size hv.1 dX7_meanAge_21 ?_
      have hv := hv.2
      refine lv_icmp_ge (tgt := 57) hx hb dX7_meanAge_22 (by decide) (fun c => ?_) (fun c => ?_)
      · have hv := hv.1 c
        refine lv_iinc (v := (v3 + 1)) (lv' := [(3, .int (v3 + 1)), (0, .ref (a 0)), (1, .int v1), (2, .int v2), (4, .int v4)]) hx hb dX7_meanAge_57 hl (k := 3) rfl rfl (by decide) rfl (fun ls hl => ?_)
        refine lv_goto (tgt := 6) hx hb dX7_meanAge_60 (by decide) ?_
        exact hK6 _ _ _ _  hv _ _ _ hE (lv_sub hl [1, 2, 3, 0] rfl)
      · have hv := hv.2 c
        refine lv_iload_n hx hb dX7_meanAge_25 rfl (lv_at hl 1 rfl) ?_
        refine lv_aload_n hx hb dX7_meanAge_26 rfl (lv_at hl 0 rfl) ?_
        refine G_get (v := .int (g.2 3)) hC hE (fun _ h => List.mem_cons_of_mem _ (List.mem_append_left _ (List.mem_append_right _ h))) f_model rfl 18 (by decide) (hts (.fieldLink RX7 84 "SeedBattleModel" "done" "I") (List.mem_of_getElem? (i := 2) rfl)) rfl dX7_meanAge_27 ?_
        refine lv_aload_n hx hb dX7_meanAge_30 rfl (lv_at hl 0 rfl) ?_
        refine G_get (v := .ref (a 9)) hC hE (fun _ h => List.mem_cons_of_mem _ (List.mem_append_left _ (List.mem_append_right _ h))) f_model rfl 8 (by decide) (hts (.fieldLink RX7 36 "SeedBattleModel" "index" "[I") (List.mem_of_getElem? (i := 3) rfl)) rfl dX7_meanAge_31 ?_
        refine lv_bipush (v := 61) hx hb dX7_meanAge_34 (by decide) ?_
        refine lv_iload_n hx hb dX7_meanAge_36 rfl (lv_at hl 3 rfl) ?_
        refine lv_imul hx hb dX7_meanAge_37 ?_
        refine lv_iload hx hb dX7_meanAge_38 (lv_at hl 4 rfl) ?_
        refine lv_iadd hx hb dX7_meanAge_40 ?_
        refine G_iald hC hE f_m_index hv.1 dX7_meanAge_41 ?_
        have hv := hv.2
        refine G_callSs hC.1 hC.2.2.2.2.1 (c_X7_turnOf l (g.1 9 (Int32.toNatClampNeg ((61 * v3) + v4))) _ hv) (va_cwS 1 hts gX7_meanAge_X7_turnOf rfl rfl rfl (by decide +kernel) ⟨Nat.le_of_ble_eq_true rfl, Nat.le_of_ble_eq_true rfl⟩) rfl hl rfl (Nat.le_of_ble_eq_true rfl) dX7_meanAge_42 (Nat.zero_le _) (Nat.zero_le _) (fun r1 hv => ?_)
        refine lv_isub hx hb dX7_meanAge_45 ?_
        refine lv_iadd hx hb dX7_meanAge_46 ?_
        refine lv_istore_n (lv' := [(1, .int (v1 + ((g.2 3) - r1))), (0, .ref (a 0)), (2, .int v2), (3, .int v3), (4, .int v4)]) hx hb dX7_meanAge_47 rfl hl (by decide) rfl (fun ls hl => ?_)
        refine lv_iinc (v := (v2 + 1)) (lv' := [(2, .int (v2 + 1)), (1, .int (v1 + ((g.2 3) - r1))), (0, .ref (a 0)), (3, .int v3), (4, .int v4)]) hx hb dX7_meanAge_48 hl (k := 2) rfl rfl (by decide) rfl (fun ls hl => ?_)
        refine lv_iinc (v := (v4 + 1)) (lv' := [(4, .int (v4 + 1)), (2, .int (v2 + 1)), (1, .int (v1 + ((g.2 3) - r1))), (0, .ref (a 0)), (3, .int v3)]) hx hb dX7_meanAge_51 hl (k := 4) rfl rfl (by decide) rfl (fun ls hl => ?_)
        refine lv_goto (tgt := 14) hx hb dX7_meanAge_54 (by decide) ?_
        exact hK14 _ _ _ _ _  hv _ _ _ hE (lv_sub hl [3, 2, 1, 4, 0] rfl)
  have j_6 : ∀ (v1 : Int32) (v2 : Int32) (v3 : Int32) (g : St), lpP (fun K6 (z : Int32 × Int32 × Int32 × St) => J_X7_meanAge_6 post K6 z.1 z.2.1 z.2.2.1 z.2.2.2) (v1, v2, v3, g) → ∀ (H : Heap) (locs : List Loc) (ls : Array Slot), uE D 16 mA (mO a) cs a F s g H locs → lv_has ls 5 [(0, .ref (a 0)), (1, .int v1), (2, .int v2), (3, .int v3)] → W p l e rm_X7_meanAge s m args below meth c H locs 0 0 (MQ below (va_Qd post (uB D (uW 16 mA (mO a) cs a)) F) args s 0 0 F) (F0 m 6 ls []) := by
    intro  v1 v2 v3 g  hv
    obtain ⟨nn, hv⟩ := hv
    induction nn generalizing v1 v2 v3 g with
    | zero => exact False.elim hv
    | succ nn hK6 =>
      intro H locs ls hE hl
      have hv : J_X7_meanAge_6 post (itP _ nn) v1 v2 v3 g := hv
      unfold J_X7_meanAge_6 at hv
      refine lv_iload_n hx hb dX7_meanAge_6 rfl (lv_at hl 3 rfl) ?_
      refine lv_iconst (v := 4) hx hb dX7_meanAge_7 (by decide) ?_
      refine lv_icmp_ge (tgt := 63) hx hb dX7_meanAge_8 (by decide) (fun c => ?_) (fun c => ?_)
      · have hv := hv.1 c
        refine lv_aload_n hx hb dX7_meanAge_63 rfl (lv_at hl 0 rfl) ?_
        refine lv_iload_n hx hb dX7_meanAge_64 rfl (lv_at hl 2 rfl) ?_
        refine lv_if_le (tgt := 72) hx hb dX7_meanAge_65 (by decide) (fun c => ?_) (fun c => ?_)
        · have hv := hv.1 c
          refine lv_iconst (v := 0) hx hb dX7_meanAge_72 (by decide) ?_
          exact j_73  _ _ _ _  hv _ _ _ hE (lv_sub hl [1, 2] rfl)
        · have hv := hv.2 c
          refine lv_iconst (v := 1) hx hb dX7_meanAge_68 (by decide) ?_
          refine lv_goto (tgt := 73) hx hb dX7_meanAge_69 (by decide) ?_
          exact j_73  _ _ _ _  hv _ _ _ hE (lv_sub hl [1, 2] rfl)
      · have hv := hv.2 c
        refine lv_iconst (v := 0) hx hb dX7_meanAge_11 (by decide) ?_
        refine lv_istore (lv' := [(4, .int 0), (0, .ref (a 0)), (1, .int v1), (2, .int v2), (3, .int v3)]) hx hb dX7_meanAge_12 hl (by decide) rfl (fun ls hl => ?_)
        exact j_14 _ hK6 _ _ _ _ _  hv _ _ _ hE (lv_sub hl [1, 2, 3, 4, 0] rfl)
  refine lv_iconst (v := 0) hx hb dX7_meanAge_0 (by decide) ?_
  refine lv_istore_n (lv' := [(1, .int 0), (0, .ref (a 0))]) hx hb dX7_meanAge_1 rfl hl (by decide) rfl (fun ls hl => ?_)
  refine lv_iconst (v := 0) hx hb dX7_meanAge_2 (by decide) ?_
  refine lv_istore_n (lv' := [(2, .int 0), (1, .int 0), (0, .ref (a 0))]) hx hb dX7_meanAge_3 rfl hl (by decide) rfl (fun ls hl => ?_)
  refine lv_iconst (v := 0) hx hb dX7_meanAge_4 (by decide) ?_
  refine lv_istore_n (lv' := [(3, .int 0), (2, .int 0), (1, .int 0), (0, .ref (a 0))]) hx hb dX7_meanAge_5 rfl hl (by decide) rfl (fun ls hl => ?_)
  exact j_6  _ _ _ _  hv _ _ _ hE (lv_sub hl [3, 2, 1, 0] rfl)
