def J_X7_living_28  (post : Int32 → St → Prop) (K4 : (Int32 × Int32 × St) → Prop) (v2 : Int32) (t0 : Int32) (t1 : Int32) (g : St) : Prop := K4 ((t1 + t0), (v2 + 1), g)
def J_X7_living_4  (post : Int32 → St → Prop) (K4 : (Int32 × Int32 × St) → Prop) (v1 : Int32) (v2 : Int32) (g : St) : Prop := (((g.2 2) ≤ v2 → post v1 g) ∧ (¬ (g.2 2) ≤ v2 → vp_in v2 24 ∧ (((¬ (g.1 2 (Int32.toNatClampNeg v2)) = (-1) → J_X7_living_28 post K4 v2 1 v1 g) ∧ ((g.1 2 (Int32.toNatClampNeg v2)) = (-1) → J_X7_living_28 post K4 v2 0 v1 g)))))
def V_X7_living  (g : St) (post : Int32 → St → Prop) : Prop := lpP (fun K4 (z : Int32 × Int32 × St) => J_X7_living_4 post K4 z.1 z.2.1 z.2.2) (0, 0, g)
abbrev rm_X7_living : Room := { frames := 0, cells := 0, slots := 0, locals := 0 }
set_option maxHeartbeats 4000000 in
set_option maxRecDepth 100000 in
theorem c_X7_living (l : Launch) (D : va_G) (cs az a : Nat → Nat)  (g : St) (post : Int32 → St → Prop) (hv : V_X7_living  g post) : uMi l yX7_living wsX7_living rm_X7_living D cs az (mW cs a) [.ref (a 0)] g post := by
  refine u_ofI (cc := cX7_living) (maxL := 3) (by decide) rfl (Nat.le_of_ble_eq_true rfl) ?_
  intro p e s m args below meth c F ls hC hr hk hl hE
  have hx := hC.1.1; have hb := hC.1.2.1; have hml := hC.1.2.2.1; have hts := hC.1.2.2.2.2
  have hown : s.vm.findClass RX7 = some m.cls := hC.1.2.2.2.1
  have hl : lv_has ls 3 [(0, .ref (a 0))] := hl
  unfold V_X7_living at hv
  have j_28 : ∀ (K4 : (Int32 × Int32 × St) → Prop), (∀ (v1 : Int32) (v2 : Int32) (g : St), K4 (v1, v2, g) → ∀ (H : Heap) (locs : List Loc) (ls : Array Slot), uE D 16 mA (mO a) cs a F s g H locs → lv_has ls 3 [(0, .ref (a 0)), (1, .int v1), (2, .int v2)] → W p l e rm_X7_living s m args below meth c H locs 0 0 (MQ below (va_Qi post (uB D (uW 16 mA (mO a) cs a)) F) args s 0 0 F) (F0 m 4 ls [])) → ∀ (v2 : Int32) (t0 : Int32) (t1 : Int32) (g : St), J_X7_living_28 post K4 v2 t0 t1 g → ∀ (H : Heap) (locs : List Loc) (ls : Array Slot), uE D 16 mA (mO a) cs a F s g H locs → lv_has ls 3 [(0, .ref (a 0)), (2, .int v2)] → W p l e rm_X7_living s m args below meth c H locs 0 0 (MQ below (va_Qi post (uB D (uW 16 mA (mO a) cs a)) F) args s 0 0 F) (F0 m 28 ls [.int t0, .int t1]) := by
    intro K4 hK4 v2 t0 t1 g  hv
    intro H locs ls hE hl
    unfold J_X7_living_28 at hv
    refine lv_iadd hx hb dX7_living_28 ?_
    refine lv_istore_n (lv' := [(1, .int (t1 + t0)), (0, .ref (a 0)), (2, .int v2)]) hx hb dX7_living_29 rfl hl (by decide) rfl (fun ls hl => ?_)
    refine lv_iinc (v := (v2 + 1)) (lv' := [(2, .int (v2 + 1)), (1, .int (t1 + t0)), (0, .ref (a 0))]) hx hb dX7_living_30 hl (k := 2) rfl rfl (by decide) rfl (fun ls hl => ?_)
    refine lv_goto (tgt := 4) hx hb dX7_living_33 (by decide) ?_
    exact hK4 _ _ _  hv _ _ _ hE (lv_sub hl [2, 1, 0] rfl)
  have j_4 : ∀ (v1 : Int32) (v2 : Int32) (g : St), lpP (fun K4 (z : Int32 × Int32 × St) => J_X7_living_4 post K4 z.1 z.2.1 z.2.2) (v1, v2, g) → ∀ (H : Heap) (locs : List Loc) (ls : Array Slot), uE D 16 mA (mO a) cs a F s g H locs → lv_has ls 3 [(0, .ref (a 0)), (1, .int v1), (2, .int v2)] → W p l e rm_X7_living s m args below meth c H locs 0 0 (MQ below (va_Qi post (uB D (uW 16 mA (mO a) cs a)) F) args s 0 0 F) (F0 m 4 ls []) := by
    intro  v1 v2 g  hv
    obtain ⟨nn, hv⟩ := hv
    induction nn generalizing v1 v2 g with
    | zero => exact False.elim hv
    | succ nn hK4 =>
      intro H locs ls hE hl
      have hv : J_X7_living_4 post (itP _ nn) v1 v2 g := hv
      unfold J_X7_living_4 at hv
      refine lv_iload_n hx hb dX7_living_4 rfl (lv_at hl 2 rfl) ?_
      refine lv_aload_n hx hb dX7_living_5 rfl (lv_at hl 0 rfl) ?_
      refine G_get (v := .int (g.2 2)) hC hE (fun _ h => List.mem_cons_of_mem _ (List.mem_append_left _ (List.mem_append_right _ h))) f_model rfl 17 (by decide) (hts (.fieldLink RX7 65 "SeedBattleModel" "units" "I") (List.mem_of_getElem? (i := 1) rfl)) rfl dX7_living_6 ?_
      refine lv_icmp_ge (tgt := 36) hx hb dX7_living_9 (by decide) (fun c => ?_) (fun c => ?_)
      · have hv := hv.1 c
        refine lv_iload_n hx hb dX7_living_36 rfl (lv_at hl 1 rfl) ?_
        exact G_iret hC hr hk hE hv dX7_living_37
      · have hv := hv.2 c
        refine lv_iload_n hx hb dX7_living_12 rfl (lv_at hl 1 rfl) ?_
        refine lv_aload_n hx hb dX7_living_13 rfl (lv_at hl 0 rfl) ?_
        refine G_get (v := .ref (a 2)) hC hE (fun _ h => List.mem_cons_of_mem _ (List.mem_append_left _ (List.mem_append_right _ h))) f_model rfl 1 (by decide) (hts (.fieldLink RX7 13 "SeedBattleModel" "cell" "[I") (List.mem_of_getElem? (i := 2) rfl)) rfl dX7_living_14 ?_
        refine lv_iload_n hx hb dX7_living_17 rfl (lv_at hl 2 rfl) ?_
        refine G_iald hC hE f_m_cell hv.1 dX7_living_18 ?_
        have hv := hv.2
        refine lv_iconst (v := (-1)) hx hb dX7_living_19 (by decide) ?_
        refine lv_icmp_ne (tgt := 27) hx hb dX7_living_20 (by decide) (fun c => ?_) (fun c => ?_)
        · have hv := hv.1 c
          refine lv_iconst (v := 1) hx hb dX7_living_27 (by decide) ?_
          exact j_28 _ hK4 _ _ _ _  hv _ _ _ hE (lv_sub hl [0, 2] rfl)
        · have hv := hv.2 c
          refine lv_iconst (v := 0) hx hb dX7_living_23 (by decide) ?_
          refine lv_goto (tgt := 28) hx hb dX7_living_24 (by decide) ?_
          exact j_28 _ hK4 _ _ _ _  hv _ _ _ hE (lv_sub hl [0, 2] rfl)
  refine lv_iconst (v := 0) hx hb dX7_living_0 (by decide) ?_
  refine lv_istore_n (lv' := [(1, .int 0), (0, .ref (a 0))]) hx hb dX7_living_1 rfl hl (by decide) rfl (fun ls hl => ?_)
  refine lv_iconst (v := 0) hx hb dX7_living_2 (by decide) ?_
  refine lv_istore_n (lv' := [(2, .int 0), (1, .int 0), (0, .ref (a 0))]) hx hb dX7_living_3 rfl hl (by decide) rfl (fun ls hl => ?_)
  exact j_4  _ _ _  hv _ _ _ hE (lv_sub hl [2, 1, 0] rfl)
def J_X7_looksAt_217 (x1 : Int32) (x2 : Int32) (post : Int32 → St → Prop) (K148 : (Int32 × Int32 × Int32 × Int32 × Int32 × Int32 × Int32 × Int32 × St) → Prop) (v3 : Int32) (v5 : Int32) (v6 : Int32) (v7 : Int32) (v8 : Int32) (v9 : Int32) (v11 : Int32) (t0 : Int32) (g : St) : Prop := K148 (v3, v5, v6, v7, v8, v9, t0, (v11 + 1), g)
def J_X7_looksAt_216 (x1 : Int32) (x2 : Int32) (post : Int32 → St → Prop) (K148 : (Int32 × Int32 × Int32 × Int32 × Int32 × Int32 × Int32 × Int32 × St) → Prop) (v3 : Int32) (v5 : Int32) (v6 : Int32) (v7 : Int32) (v8 : Int32) (v9 : Int32) (v11 : Int32) (g : St) : Prop := J_X7_looksAt_217 x1 x2 post K148 v3 v5 v6 v7 v8 v9 v11 0 g
def J_X7_looksAt_212 (x1 : Int32) (x2 : Int32) (post : Int32 → St → Prop) (K148 : (Int32 × Int32 × Int32 × Int32 × Int32 × Int32 × Int32 × Int32 × St) → Prop) (v3 : Int32) (v5 : Int32) (v6 : Int32) (v7 : Int32) (v8 : Int32) (v9 : Int32) (v11 : Int32) (g : St) : Prop := J_X7_looksAt_217 x1 x2 post K148 v3 v5 v6 v7 v8 v9 v11 1 g
def J_X7_looksAt_148 (x1 : Int32) (x2 : Int32) (post : Int32 → St → Prop) (K148 : (Int32 × Int32 × Int32 × Int32 × Int32 × Int32 × Int32 × Int32 × St) → Prop) (v3 : Int32) (v5 : Int32) (v6 : Int32) (v7 : Int32) (v8 : Int32) (v9 : Int32) (v10 : Int32) (v11 : Int32) (g : St) : Prop := ((v9 ≤ v11 → (narrow .boolean (.int v10) = .int v10) ∧ post v10 g) ∧ (¬ v9 ≤ v11 → ((v10 = 0 → (narrow .boolean (.int v10) = .int v10) ∧ post v10 g) ∧ (¬ v10 = 0 → V_X7_part v11 v8 v9 (fun r3 => V_X7_part v11 v7 v9 (fun r4 => V_X7_groundOf (((8 * (v6 + r3)) + v5) + r4) g (fun r6 g5 => ((r6 = 104 → J_X7_looksAt_216 x1 x2 post K148 v3 v5 v6 v7 v8 v9 v11 g5) ∧ (¬ r6 = 104 → ((¬ r6 = 119 → J_X7_looksAt_212 x1 x2 post K148 v3 v5 v6 v7 v8 v9 v11 g5) ∧ (r6 = 119 → ((v3 = 0 → J_X7_looksAt_216 x1 x2 post K148 v3 v5 v6 v7 v8 v9 v11 g5) ∧ (¬ v3 = 0 → J_X7_looksAt_212 x1 x2 post K148 v3 v5 v6 v7 v8 v9 v11 g5)))))))))))))
def J_X7_looksAt_143 (x1 : Int32) (x2 : Int32) (post : Int32 → St → Prop)  (v3 : Int32) (v5 : Int32) (v6 : Int32) (v7 : Int32) (v8 : Int32) (v9 : Int32) (t0 : Int32) (g : St) : Prop := lpP (fun K148 (z : Int32 × Int32 × Int32 × Int32 × Int32 × Int32 × Int32 × Int32 × St) => J_X7_looksAt_148 x1 x2 post K148 z.1 z.2.1 z.2.2.1 z.2.2.2.1 z.2.2.2.2.1 z.2.2.2.2.2.1 z.2.2.2.2.2.2.1 z.2.2.2.2.2.2.2.1 z.2.2.2.2.2.2.2.2) (v3, v5, v6, v7, v8, v9, t0, 1, g)
def J_X7_looksAt_73 (x1 : Int32) (x2 : Int32) (post : Int32 → St → Prop)  (v1 : Int32) (v2 : Int32) (v3 : Int32) (t0 : Int32) (t1 : Int32) (g : St) : Prop := vp_in v1 24 ∧ (vp_in v1 24 ∧ ((((t1 + t0) < (if (if 0 ≤ ((v2 - v2 / 8 * 8) - ((g.1 2 (Int32.toNatClampNeg v1)) - (g.1 2 (Int32.toNatClampNeg v1)) / 8 * 8)) then ((v2 - v2 / 8 * 8) - ((g.1 2 (Int32.toNatClampNeg v1)) - (g.1 2 (Int32.toNatClampNeg v1)) / 8 * 8)) else 0 - ((v2 - v2 / 8 * 8) - ((g.1 2 (Int32.toNatClampNeg v1)) - (g.1 2 (Int32.toNatClampNeg v1)) / 8 * 8))) < (if 0 ≤ ((v2 / 8) - ((g.1 2 (Int32.toNatClampNeg v1)) / 8)) then ((v2 / 8) - ((g.1 2 (Int32.toNatClampNeg v1)) / 8)) else 0 - ((v2 / 8) - ((g.1 2 (Int32.toNatClampNeg v1)) / 8))) then (if 0 ≤ ((v2 / 8) - ((g.1 2 (Int32.toNatClampNeg v1)) / 8)) then ((v2 / 8) - ((g.1 2 (Int32.toNatClampNeg v1)) / 8)) else 0 - ((v2 / 8) - ((g.1 2 (Int32.toNatClampNeg v1)) / 8))) else (if 0 ≤ ((v2 - v2 / 8 * 8) - ((g.1 2 (Int32.toNatClampNeg v1)) - (g.1 2 (Int32.toNatClampNeg v1)) / 8 * 8)) then ((v2 - v2 / 8 * 8) - ((g.1 2 (Int32.toNatClampNeg v1)) - (g.1 2 (Int32.toNatClampNeg v1)) / 8 * 8)) else 0 - ((v2 - v2 / 8 * 8) - ((g.1 2 (Int32.toNatClampNeg v1)) - (g.1 2 (Int32.toNatClampNeg v1)) / 8 * 8)))) → J_X7_looksAt_143 x1 x2 post v3 ((g.1 2 (Int32.toNatClampNeg v1)) - (g.1 2 (Int32.toNatClampNeg v1)) / 8 * 8) ((g.1 2 (Int32.toNatClampNeg v1)) / 8) ((v2 - v2 / 8 * 8) - ((g.1 2 (Int32.toNatClampNeg v1)) - (g.1 2 (Int32.toNatClampNeg v1)) / 8 * 8)) ((v2 / 8) - ((g.1 2 (Int32.toNatClampNeg v1)) / 8)) (if (if 0 ≤ ((v2 - v2 / 8 * 8) - ((g.1 2 (Int32.toNatClampNeg v1)) - (g.1 2 (Int32.toNatClampNeg v1)) / 8 * 8)) then ((v2 - v2 / 8 * 8) - ((g.1 2 (Int32.toNatClampNeg v1)) - (g.1 2 (Int32.toNatClampNeg v1)) / 8 * 8)) else 0 - ((v2 - v2 / 8 * 8) - ((g.1 2 (Int32.toNatClampNeg v1)) - (g.1 2 (Int32.toNatClampNeg v1)) / 8 * 8))) < (if 0 ≤ ((v2 / 8) - ((g.1 2 (Int32.toNatClampNeg v1)) / 8)) then ((v2 / 8) - ((g.1 2 (Int32.toNatClampNeg v1)) / 8)) else 0 - ((v2 / 8) - ((g.1 2 (Int32.toNatClampNeg v1)) / 8))) then (if 0 ≤ ((v2 / 8) - ((g.1 2 (Int32.toNatClampNeg v1)) / 8)) then ((v2 / 8) - ((g.1 2 (Int32.toNatClampNeg v1)) / 8)) else 0 - ((v2 / 8) - ((g.1 2 (Int32.toNatClampNeg v1)) / 8))) else (if 0 ≤ ((v2 - v2 / 8 * 8) - ((g.1 2 (Int32.toNatClampNeg v1)) - (g.1 2 (Int32.toNatClampNeg v1)) / 8 * 8)) then ((v2 - v2 / 8 * 8) - ((g.1 2 (Int32.toNatClampNeg v1)) - (g.1 2 (Int32.toNatClampNeg v1)) / 8 * 8)) else 0 - ((v2 - v2 / 8 * 8) - ((g.1 2 (Int32.toNatClampNeg v1)) - (g.1 2 (Int32.toNatClampNeg v1)) / 8 * 8)))) 0 g) ∧ (¬ (t1 + t0) < (if (if 0 ≤ ((v2 - v2 / 8 * 8) - ((g.1 2 (Int32.toNatClampNeg v1)) - (g.1 2 (Int32.toNatClampNeg v1)) / 8 * 8)) then ((v2 - v2 / 8 * 8) - ((g.1 2 (Int32.toNatClampNeg v1)) - (g.1 2 (Int32.toNatClampNeg v1)) / 8 * 8)) else 0 - ((v2 - v2 / 8 * 8) - ((g.1 2 (Int32.toNatClampNeg v1)) - (g.1 2 (Int32.toNatClampNeg v1)) / 8 * 8))) < (if 0 ≤ ((v2 / 8) - ((g.1 2 (Int32.toNatClampNeg v1)) / 8)) then ((v2 / 8) - ((g.1 2 (Int32.toNatClampNeg v1)) / 8)) else 0 - ((v2 / 8) - ((g.1 2 (Int32.toNatClampNeg v1)) / 8))) then (if 0 ≤ ((v2 / 8) - ((g.1 2 (Int32.toNatClampNeg v1)) / 8)) then ((v2 / 8) - ((g.1 2 (Int32.toNatClampNeg v1)) / 8)) else 0 - ((v2 / 8) - ((g.1 2 (Int32.toNatClampNeg v1)) / 8))) else (if 0 ≤ ((v2 - v2 / 8 * 8) - ((g.1 2 (Int32.toNatClampNeg v1)) - (g.1 2 (Int32.toNatClampNeg v1)) / 8 * 8)) then ((v2 - v2 / 8 * 8) - ((g.1 2 (Int32.toNatClampNeg v1)) - (g.1 2 (Int32.toNatClampNeg v1)) / 8 * 8)) else 0 - ((v2 - v2 / 8 * 8) - ((g.1 2 (Int32.toNatClampNeg v1)) - (g.1 2 (Int32.toNatClampNeg v1)) / 8 * 8)))) → J_X7_looksAt_143 x1 x2 post v3 ((g.1 2 (Int32.toNatClampNeg v1)) - (g.1 2 (Int32.toNatClampNeg v1)) / 8 * 8) ((g.1 2 (Int32.toNatClampNeg v1)) / 8) ((v2 - v2 / 8 * 8) - ((g.1 2 (Int32.toNatClampNeg v1)) - (g.1 2 (Int32.toNatClampNeg v1)) / 8 * 8)) ((v2 / 8) - ((g.1 2 (Int32.toNatClampNeg v1)) / 8)) (if (if 0 ≤ ((v2 - v2 / 8 * 8) - ((g.1 2 (Int32.toNatClampNeg v1)) - (g.1 2 (Int32.toNatClampNeg v1)) / 8 * 8)) then ((v2 - v2 / 8 * 8) - ((g.1 2 (Int32.toNatClampNeg v1)) - (g.1 2 (Int32.toNatClampNeg v1)) / 8 * 8)) else 0 - ((v2 - v2 / 8 * 8) - ((g.1 2 (Int32.toNatClampNeg v1)) - (g.1 2 (Int32.toNatClampNeg v1)) / 8 * 8))) < (if 0 ≤ ((v2 / 8) - ((g.1 2 (Int32.toNatClampNeg v1)) / 8)) then ((v2 / 8) - ((g.1 2 (Int32.toNatClampNeg v1)) / 8)) else 0 - ((v2 / 8) - ((g.1 2 (Int32.toNatClampNeg v1)) / 8))) then (if 0 ≤ ((v2 / 8) - ((g.1 2 (Int32.toNatClampNeg v1)) / 8)) then ((v2 / 8) - ((g.1 2 (Int32.toNatClampNeg v1)) / 8)) else 0 - ((v2 / 8) - ((g.1 2 (Int32.toNatClampNeg v1)) / 8))) else (if 0 ≤ ((v2 - v2 / 8 * 8) - ((g.1 2 (Int32.toNatClampNeg v1)) - (g.1 2 (Int32.toNatClampNeg v1)) / 8 * 8)) then ((v2 - v2 / 8 * 8) - ((g.1 2 (Int32.toNatClampNeg v1)) - (g.1 2 (Int32.toNatClampNeg v1)) / 8 * 8)) else 0 - ((v2 - v2 / 8 * 8) - ((g.1 2 (Int32.toNatClampNeg v1)) - (g.1 2 (Int32.toNatClampNeg v1)) / 8 * 8)))) 1 g))))
def J_X7_looksAt_64 (x1 : Int32) (x2 : Int32) (post : Int32 → St → Prop)  (v1 : Int32) (v2 : Int32) (v3 : Int32) (t0 : Int32) (g : St) : Prop := ((v3 = 0 → J_X7_looksAt_73 x1 x2 post v1 v2 v3 0 t0 g) ∧ (¬ v3 = 0 → J_X7_looksAt_73 x1 x2 post v1 v2 v3 1 t0 g))
def J_X7_looksAt_32 (x1 : Int32) (x2 : Int32) (post : Int32 → St → Prop)  (v1 : Int32) (v2 : Int32) (t0 : Int32) (g : St) : Prop := vp_in v1 24 ∧ (((¬ (g.1 7 (Int32.toNatClampNeg v1)) = 115 → vp_in v1 24 ∧ (((¬ (g.1 7 (Int32.toNatClampNeg v1)) = 97 → J_X7_looksAt_64 x1 x2 post v1 v2 t0 4 g) ∧ ((g.1 7 (Int32.toNatClampNeg v1)) = 97 → J_X7_looksAt_64 x1 x2 post v1 v2 t0 2 g)))) ∧ ((g.1 7 (Int32.toNatClampNeg v1)) = 115 → J_X7_looksAt_64 x1 x2 post v1 v2 t0 3 g)))
def V_X7_looksAt (x1 : Int32) (x2 : Int32) (g : St) (post : Int32 → St → Prop) : Prop := vp_in x1 24 ∧ (((¬ (g.1 2 (Int32.toNatClampNeg x1)) = (-1) → vp_in x1 24 ∧ (V_X7_groundOf (g.1 2 (Int32.toNatClampNeg x1)) g (fun r2 g1 => ((¬ r2 = 104 → J_X7_looksAt_32 x1 x2 post x1 x2 0 g1) ∧ (r2 = 104 → J_X7_looksAt_32 x1 x2 post x1 x2 1 g1))))) ∧ ((g.1 2 (Int32.toNatClampNeg x1)) = (-1) → post 0 g)))
abbrev rm_X7_looksAt : Room := { frames := 1, cells := 0, slots := 0, locals := 24 }
set_option maxHeartbeats 4000000 in
set_option maxRecDepth 100000 in
theorem c_X7_looksAt (l : Launch) (D : va_G) (cs az a : Nat → Nat) (x1 : Int32) (x2 : Int32) (g : St) (post : Int32 → St → Prop) (hv : V_X7_looksAt x1 x2 g post) : uMi l yX7_looksAt wsX7_looksAt rm_X7_looksAt D cs az (mW cs a) [.ref (a 0), .int x1, .int x2] g post := by
  refine u_ofI (cc := cX7_looksAt) (maxL := 13) (by decide) rfl (Nat.le_of_ble_eq_true rfl) ?_
  intro p e s m args below meth c F ls hC hr hk hl hE
  have hx := hC.1.1; have hb := hC.1.2.1; have hml := hC.1.2.2.1; have hts := hC.1.2.2.2.2
  have hown : s.vm.findClass RX7 = some m.cls := hC.1.2.2.2.1
  have hl : lv_has ls 13 [(0, .ref (a 0)), (1, .int x1), (2, .int x2)] := hl
  unfold V_X7_looksAt at hv
  have j_217 : ∀ (K148 : (Int32 × Int32 × Int32 × Int32 × Int32 × Int32 × Int32 × Int32 × St) → Prop), (∀ (v3 : Int32) (v5 : Int32) (v6 : Int32) (v7 : Int32) (v8 : Int32) (v9 : Int32) (v10 : Int32) (v11 : Int32) (g : St), K148 (v3, v5, v6, v7, v8, v9, v10, v11, g) → ∀ (H : Heap) (locs : List Loc) (ls : Array Slot), uE D 16 mA (mO a) cs a F s g H locs → lv_has ls 13 [(0, .ref (a 0)), (3, .int v3), (5, .int v5), (6, .int v6), (7, .int v7), (8, .int v8), (9, .int v9), (10, .int v10), (11, .int v11)] → W p l e rm_X7_looksAt s m args below meth c H locs 0 0 (MQ below (va_Qi post (uB D (uW 16 mA (mO a) cs a)) F) args s 0 0 F) (F0 m 148 ls [])) → ∀ (v3 : Int32) (v5 : Int32) (v6 : Int32) (v7 : Int32) (v8 : Int32) (v9 : Int32) (v11 : Int32) (t0 : Int32) (g : St), J_X7_looksAt_217 x1 x2 post K148 v3 v5 v6 v7 v8 v9 v11 t0 g → ∀ (H : Heap) (locs : List Loc) (ls : Array Slot), uE D 16 mA (mO a) cs a F s g H locs → lv_has ls 13 [(0, .ref (a 0)), (3, .int v3), (5, .int v5), (6, .int v6), (7, .int v7), (8, .int v8), (9, .int v9), (11, .int v11)] → W p l e rm_X7_looksAt s m args below meth c H locs 0 0 (MQ below (va_Qi post (uB D (uW 16 mA (mO a) cs a)) F) args s 0 0 F) (F0 m 217 ls [.int t0]) := by
    intro K148 hK148 v3 v5 v6 v7 v8 v9 v11 t0 g  hv
    intro H locs ls hE hl
    unfold J_X7_looksAt_217 at hv
    refine lv_istore (lv' := [(10, .int t0), (0, .ref (a 0)), (3, .int v3), (5, .int v5), (6, .int v6), (7, .int v7), (8, .int v8), (9, .int v9), (11, .int v11)]) hx hb dX7_looksAt_217 hl (by decide) rfl (fun ls hl => ?_)
    refine lv_iinc (v := (v11 + 1)) (lv' := [(11, .int (v11 + 1)), (10, .int t0), (0, .ref (a 0)), (3, .int v3), (5, .int v5), (6, .int v6), (7, .int v7), (8, .int v8), (9, .int v9)]) hx hb dX7_looksAt_219 hl (k := 8) rfl rfl (by decide) rfl (fun ls hl => ?_)
    refine lv_goto (tgt := 148) hx hb dX7_looksAt_222 (by decide) ?_
    exact hK148 _ _ _ _ _ _ _ _ _  hv _ _ _ hE (lv_sub hl [2, 3, 4, 5, 6, 7, 8, 1, 0] rfl)
  have j_216 : ∀ (K148 : (Int32 × Int32 × Int32 × Int32 × Int32 × Int32 × Int32 × Int32 × St) → Prop), (∀ (v3 : Int32) (v5 : Int32) (v6 : Int32) (v7 : Int32) (v8 : Int32) (v9 : Int32) (v10 : Int32) (v11 : Int32) (g : St), K148 (v3, v5, v6, v7, v8, v9, v10, v11, g) → ∀ (H : Heap) (locs : List Loc) (ls : Array Slot), uE D 16 mA (mO a) cs a F s g H locs → lv_has ls 13 [(0, .ref (a 0)), (3, .int v3), (5, .int v5), (6, .int v6), (7, .int v7), (8, .int v8), (9, .int v9), (10, .int v10), (11, .int v11)] → W p l e rm_X7_looksAt s m args below meth c H locs 0 0 (MQ below (va_Qi post (uB D (uW 16 mA (mO a) cs a)) F) args s 0 0 F) (F0 m 148 ls [])) → ∀ (v3 : Int32) (v5 : Int32) (v6 : Int32) (v7 : Int32) (v8 : Int32) (v9 : Int32) (v11 : Int32) (g : St), J_X7_looksAt_216 x1 x2 post K148 v3 v5 v6 v7 v8 v9 v11 g → ∀ (H : Heap) (locs : List Loc) (ls : Array Slot), uE D 16 mA (mO a) cs a F s g H locs → lv_has ls 13 [(0, .ref (a 0)), (3, .int v3), (5, .int v5), (6, .int v6), (7, .int v7), (8, .int v8), (9, .int v9), (11, .int v11)] → W p l e rm_X7_looksAt s m args below meth c H locs 0 0 (MQ below (va_Qi post (uB D (uW 16 mA (mO a) cs a)) F) args s 0 0 F) (F0 m 216 ls []) := by
    intro K148 hK148 v3 v5 v6 v7 v8 v9 v11 g  hv
    intro H locs ls hE hl
    unfold J_X7_looksAt_216 at hv
    refine lv_iconst (v := 0) hx hb dX7_looksAt_216 (by decide) ?_
    exact j_217 _ hK148 _ _ _ _ _ _ _ _ _  hv _ _ _ hE (lv_sub hl [0, 1, 2, 3, 4, 5, 6, 7] rfl)
  have j_212 : ∀ (K148 : (Int32 × Int32 × Int32 × Int32 × Int32 × Int32 × Int32 × Int32 × St) → Prop), (∀ (v3 : Int32) (v5 : Int32) (v6 : Int32) (v7 : Int32) (v8 : Int32) (v9 : Int32) (v10 : Int32) (v11 : Int32) (g : St), K148 (v3, v5, v6, v7, v8, v9, v10, v11, g) → ∀ (H : Heap) (locs : List Loc) (ls : Array Slot), uE D 16 mA (mO a) cs a F s g H locs → lv_has ls 13 [(0, .ref (a 0)), (3, .int v3), (5, .int v5), (6, .int v6), (7, .int v7), (8, .int v8), (9, .int v9), (10, .int v10), (11, .int v11)] → W p l e rm_X7_looksAt s m args below meth c H locs 0 0 (MQ below (va_Qi post (uB D (uW 16 mA (mO a) cs a)) F) args s 0 0 F) (F0 m 148 ls [])) → ∀ (v3 : Int32) (v5 : Int32) (v6 : Int32) (v7 : Int32) (v8 : Int32) (v9 : Int32) (v11 : Int32) (g : St), J_X7_looksAt_212 x1 x2 post K148 v3 v5 v6 v7 v8 v9 v11 g → ∀ (H : Heap) (locs : List Loc) (ls : Array Slot), uE D 16 mA (mO a) cs a F s g H locs → lv_has ls 13 [(0, .ref (a 0)), (3, .int v3), (5, .int v5), (6, .int v6), (7, .int v7), (8, .int v8), (9, .int v9), (11, .int v11)] → W p l e rm_X7_looksAt s m args below meth c H locs 0 0 (MQ below (va_Qi post (uB D (uW 16 mA (mO a) cs a)) F) args s 0 0 F) (F0 m 212 ls []) := by
    intro K148 hK148 v3 v5 v6 v7 v8 v9 v11 g  hv
    intro H locs ls hE hl
    unfold J_X7_looksAt_212 at hv
    refine lv_iconst (v := 1) hx hb dX7_looksAt_212 (by decide) ?_
    refine lv_goto (tgt := 217) hx hb dX7_looksAt_213 (by decide) ?_
    exact j_217 _ hK148 _ _ _ _ _ _ _ _ _  hv _ _ _ hE (lv_sub hl [0, 1, 2, 3, 4, 5, 6, 7] rfl)
  have j_148 : ∀ (v3 : Int32) (v5 : Int32) (v6 : Int32) (v7 : Int32) (v8 : Int32) (v9 : Int32) (v10 : Int32) (v11 : Int32) (g : St), lpP (fun K148 (z : Int32 × Int32 × Int32 × Int32 × Int32 × Int32 × Int32 × Int32 × St) => J_X7_looksAt_148 x1 x2 post K148 z.1 z.2.1 z.2.2.1 z.2.2.2.1 z.2.2.2.2.1 z.2.2.2.2.2.1 z.2.2.2.2.2.2.1 z.2.2.2.2.2.2.2.1 z.2.2.2.2.2.2.2.2) (v3, v5, v6, v7, v8, v9, v10, v11, g) → ∀ (H : Heap) (locs : List Loc) (ls : Array Slot), uE D 16 mA (mO a) cs a F s g H locs → lv_has ls 13 [(0, .ref (a 0)), (3, .int v3), (5, .int v5), (6, .int v6), (7, .int v7), (8, .int v8), (9, .int v9), (10, .int v10), (11, .int v11)] → W p l e rm_X7_looksAt s m args below meth c H locs 0 0 (MQ below (va_Qi post (uB D (uW 16 mA (mO a) cs a)) F) args s 0 0 F) (F0 m 148 ls []) := by
    intro  v3 v5 v6 v7 v8 v9 v10 v11 g  hv
    obtain ⟨nn, hv⟩ := hv
    induction nn generalizing v3 v5 v6 v7 v8 v9 v10 v11 g with
    | zero => exact False.elim hv
    | succ nn hK148 =>
      intro H locs ls hE hl
      have hv : J_X7_looksAt_148 x1 x2 post (itP _ nn) v3 v5 v6 v7 v8 v9 v10 v11 g := hv
      unfold J_X7_looksAt_148 at hv
      refine lv_iload hx hb dX7_looksAt_148 (lv_at hl 8 rfl) ?_
      refine lv_iload hx hb dX7_looksAt_150 (lv_at hl 6 rfl) ?_
      refine lv_icmp_ge (tgt := 225) hx hb dX7_looksAt_152 (by decide) (fun c => ?_) (fun c => ?_)
      · have hv := hv.1 c
        refine lv_iload hx hb dX7_looksAt_225 (lv_at hl 7 rfl) ?_
        exact G_zret hC hr hk hE hv.1 hv.2 dX7_looksAt_227
      · have hv := hv.2 c
        refine lv_iload hx hb dX7_looksAt_155 (lv_at hl 7 rfl) ?_
        refine lv_if_eq (tgt := 225) hx hb dX7_looksAt_157 (by decide) (fun c => ?_) (fun c => ?_)
        · have hv := hv.1 c
          refine lv_iload hx hb dX7_looksAt_225 (lv_at hl 7 rfl) ?_
          exact G_zret hC hr hk hE hv.1 hv.2 dX7_looksAt_227
        · have hv := hv.2 c
          refine lv_aload_n hx hb dX7_looksAt_160 rfl (lv_at hl 0 rfl) ?_
          refine lv_bipush (v := 8) hx hb dX7_looksAt_161 (by decide) ?_
          refine lv_iload hx hb dX7_looksAt_163 (lv_at hl 3 rfl) ?_
          refine lv_iload hx hb dX7_looksAt_165 (lv_at hl 8 rfl) ?_
          refine lv_iload hx hb dX7_looksAt_167 (lv_at hl 5 rfl) ?_
          refine lv_iload hx hb dX7_looksAt_169 (lv_at hl 6 rfl) ?_
          refine G_callSs hC.1 hC.2.2.2.2.1 (c_X7_part l v11 v8 v9 _ hv) (va_cwS 3 hts gX7_looksAt_X7_part rfl rfl rfl (by decide +kernel) ⟨Nat.le_of_ble_eq_true rfl, Nat.le_of_ble_eq_true rfl⟩) rfl hl rfl (Nat.le_of_ble_eq_true rfl) dX7_looksAt_171 (Nat.zero_le _) (Nat.zero_le _) (fun r3 hv => ?_)
          refine lv_iadd hx hb dX7_looksAt_174 ?_
          refine lv_imul hx hb dX7_looksAt_175 ?_
          refine lv_iload hx hb dX7_looksAt_176 (lv_at hl 2 rfl) ?_
          refine lv_iadd hx hb dX7_looksAt_178 ?_
          refine lv_iload hx hb dX7_looksAt_179 (lv_at hl 8 rfl) ?_
          refine lv_iload hx hb dX7_looksAt_181 (lv_at hl 4 rfl) ?_
          refine lv_iload hx hb dX7_looksAt_183 (lv_at hl 6 rfl) ?_
          refine G_callSs hC.1 hC.2.2.2.2.1 (c_X7_part l v11 v7 v9 _ hv) (va_cwS 3 hts gX7_looksAt_X7_part rfl rfl rfl (by decide +kernel) ⟨Nat.le_of_ble_eq_true rfl, Nat.le_of_ble_eq_true rfl⟩) rfl hl rfl (Nat.le_of_ble_eq_true rfl) dX7_looksAt_185 (Nat.zero_le _) (Nat.zero_le _) (fun r4 hv => ?_)
          refine lv_iadd hx hb dX7_looksAt_188 ?_
          refine G_callVi hC (c_X7_groundOf l D cs az a (((8 * (v6 + r3)) + v5) + r4) g _ hv) (cwV 1 hts gX7_looksAt_X7_groundOf rfl rfl rfl (by decide +kernel) ⟨Nat.le_of_ble_eq_true rfl, Nat.le_of_ble_eq_true rfl⟩) f_model rfl rfl hl rfl (Nat.le_of_ble_eq_true rfl) dX7_looksAt_189 hE (fun r6 g5 H locs hv hE => ?_)
          refine lv_istore (lv' := [(12, .int r6), (0, .ref (a 0)), (3, .int v3), (5, .int v5), (6, .int v6), (7, .int v7), (8, .int v8), (9, .int v9), (10, .int v10), (11, .int v11)]) hx hb dX7_looksAt_192 hl (by decide) rfl (fun ls hl => ?_)
          refine lv_iload hx hb dX7_looksAt_194 (lv_at hl 0 rfl) ?_
          refine lv_bipush (v := 104) hx hb dX7_looksAt_196 (by decide) ?_
          refine lv_icmp_eq (tgt := 216) hx hb dX7_looksAt_198 (by decide) (fun c => ?_) (fun c => ?_)
          · have hv := hv.1 c
            exact j_216 _ hK148 _ _ _ _ _ _ _ _  hv _ _ _ hE (lv_sub hl [1, 2, 3, 4, 5, 6, 7, 9] rfl)
          · have hv := hv.2 c
            refine lv_iload hx hb dX7_looksAt_201 (lv_at hl 0 rfl) ?_
            refine lv_bipush (v := 119) hx hb dX7_looksAt_203 (by decide) ?_
            refine lv_icmp_ne (tgt := 212) hx hb dX7_looksAt_205 (by decide) (fun c => ?_) (fun c => ?_)
            · have hv := hv.1 c
              exact j_212 _ hK148 _ _ _ _ _ _ _ _  hv _ _ _ hE (lv_sub hl [1, 2, 3, 4, 5, 6, 7, 9] rfl)
            · have hv := hv.2 c
              refine lv_iload_n hx hb dX7_looksAt_208 rfl (lv_at hl 2 rfl) ?_
              refine lv_if_eq (tgt := 216) hx hb dX7_looksAt_209 (by decide) (fun c => ?_) (fun c => ?_)
              · have hv := hv.1 c
                exact j_216 _ hK148 _ _ _ _ _ _ _ _  hv _ _ _ hE (lv_sub hl [1, 2, 3, 4, 5, 6, 7, 9] rfl)
              · have hv := hv.2 c
                exact j_212 _ hK148 _ _ _ _ _ _ _ _  hv _ _ _ hE (lv_sub hl [1, 2, 3, 4, 5, 6, 7, 9] rfl)
  have j_143 : ∀ (v3 : Int32) (v5 : Int32) (v6 : Int32) (v7 : Int32) (v8 : Int32) (v9 : Int32) (t0 : Int32) (g : St), J_X7_looksAt_143 x1 x2 post v3 v5 v6 v7 v8 v9 t0 g → ∀ (H : Heap) (locs : List Loc) (ls : Array Slot), uE D 16 mA (mO a) cs a F s g H locs → lv_has ls 13 [(0, .ref (a 0)), (3, .int v3), (5, .int v5), (6, .int v6), (7, .int v7), (8, .int v8), (9, .int v9)] → W p l e rm_X7_looksAt s m args below meth c H locs 0 0 (MQ below (va_Qi post (uB D (uW 16 mA (mO a) cs a)) F) args s 0 0 F) (F0 m 143 ls [.int t0]) := by
    intro  v3 v5 v6 v7 v8 v9 t0 g  hv
    intro H locs ls hE hl
    unfold J_X7_looksAt_143 at hv
    refine lv_istore (lv' := [(10, .int t0), (0, .ref (a 0)), (3, .int v3), (5, .int v5), (6, .int v6), (7, .int v7), (8, .int v8), (9, .int v9)]) hx hb dX7_looksAt_143 hl (by decide) rfl (fun ls hl => ?_)
    refine lv_iconst (v := 1) hx hb dX7_looksAt_145 (by decide) ?_
    refine lv_istore (lv' := [(11, .int 1), (10, .int t0), (0, .ref (a 0)), (3, .int v3), (5, .int v5), (6, .int v6), (7, .int v7), (8, .int v8), (9, .int v9)]) hx hb dX7_looksAt_146 hl (by decide) rfl (fun ls hl => ?_)
    exact j_148  _ _ _ _ _ _ _ _ _  hv _ _ _ hE (lv_sub hl [2, 3, 4, 5, 6, 7, 8, 1, 0] rfl)
  have j_73 : ∀ (v1 : Int32) (v2 : Int32) (v3 : Int32) (t0 : Int32) (t1 : Int32) (g : St), J_X7_looksAt_73 x1 x2 post v1 v2 v3 t0 t1 g → ∀ (H : Heap) (locs : List Loc) (ls : Array Slot), uE D 16 mA (mO a) cs a F s g H locs → lv_has ls 13 [(0, .ref (a 0)), (1, .int v1), (2, .int v2), (3, .int v3)] → W p l e rm_X7_looksAt s m args below meth c H locs 0 0 (MQ below (va_Qi post (uB D (uW 16 mA (mO a) cs a)) F) args s 0 0 F) (F0 m 73 ls [.int t0, .int t1]) := by
    intro  v1 v2 v3 t0 t1 g  hv
    intro H locs ls hE hl
    unfold J_X7_looksAt_73 at hv
    refine lv_iadd hx hb dX7_looksAt_73 ?_
    refine lv_istore (lv' := [(4, .int (t1 + t0)), (0, .ref (a 0)), (1, .int v1), (2, .int v2), (3, .int v3)]) hx hb dX7_looksAt_74 hl (by decide) rfl (fun ls hl => ?_)
    refine lv_aload_n hx hb dX7_looksAt_76 rfl (lv_at hl 1 rfl) ?_
    refine G_get (v := .ref (a 2)) hC hE (fun _ h => List.mem_cons_of_mem _ (List.mem_append_left _ (List.mem_append_left _ (List.mem_append_right _ h)))) f_model rfl 1 (by decide) (hts (.fieldLink RX7 13 "SeedBattleModel" "cell" "[I") (List.mem_of_getElem? (i := 1) rfl)) rfl dX7_looksAt_77 ?_
    refine lv_iload_n hx hb dX7_looksAt_80 rfl (lv_at hl 2 rfl) ?_
    refine G_iald hC hE f_m_cell hv.1 dX7_looksAt_81 ?_
    have hv := hv.2
    refine lv_bipush (v := 8) hx hb dX7_looksAt_82 (by decide) ?_
    refine lv_irem hx hb dX7_looksAt_84 (by decide) ?_
    refine lv_istore (lv' := [(5, .int ((g.1 2 (Int32.toNatClampNeg v1)) - (g.1 2 (Int32.toNatClampNeg v1)) / 8 * 8)), (4, .int (t1 + t0)), (0, .ref (a 0)), (1, .int v1), (2, .int v2), (3, .int v3)]) hx hb dX7_looksAt_85 hl (by decide) rfl (fun ls hl => ?_)
    refine lv_aload_n hx hb dX7_looksAt_87 rfl (lv_at hl 2 rfl) ?_
    refine G_get (v := .ref (a 2)) hC hE (fun _ h => List.mem_cons_of_mem _ (List.mem_append_left _ (List.mem_append_left _ (List.mem_append_right _ h)))) f_model rfl 1 (by decide) (hts (.fieldLink RX7 13 "SeedBattleModel" "cell" "[I") (List.mem_of_getElem? (i := 1) rfl)) rfl dX7_looksAt_88 ?_
    refine lv_iload_n hx hb dX7_looksAt_91 rfl (lv_at hl 3 rfl) ?_
    refine G_iald hC hE f_m_cell hv.1 dX7_looksAt_92 ?_
    have hv := hv.2
    refine lv_bipush (v := 8) hx hb dX7_looksAt_93 (by decide) ?_
    refine lv_idiv hx hb dX7_looksAt_95 (by decide) ?_
    refine lv_istore (lv' := [(6, .int ((g.1 2 (Int32.toNatClampNeg v1)) / 8)), (5, .int ((g.1 2 (Int32.toNatClampNeg v1)) - (g.1 2 (Int32.toNatClampNeg v1)) / 8 * 8)), (4, .int (t1 + t0)), (0, .ref (a 0)), (1, .int v1), (2, .int v2), (3, .int v3)]) hx hb dX7_looksAt_96 hl (by decide) rfl (fun ls hl => ?_)
    refine lv_iload_n hx hb dX7_looksAt_98 rfl (lv_at hl 5 rfl) ?_
    refine lv_bipush (v := 8) hx hb dX7_looksAt_99 (by decide) ?_
    refine lv_irem hx hb dX7_looksAt_101 (by decide) ?_
    refine lv_iload hx hb dX7_looksAt_102 (lv_at hl 1 rfl) ?_
    refine lv_isub hx hb dX7_looksAt_104 ?_
    refine lv_istore (lv' := [(7, .int ((v2 - v2 / 8 * 8) - ((g.1 2 (Int32.toNatClampNeg v1)) - (g.1 2 (Int32.toNatClampNeg v1)) / 8 * 8))), (6, .int ((g.1 2 (Int32.toNatClampNeg v1)) / 8)), (5, .int ((g.1 2 (Int32.toNatClampNeg v1)) - (g.1 2 (Int32.toNatClampNeg v1)) / 8 * 8)), (4, .int (t1 + t0)), (0, .ref (a 0)), (1, .int v1), (2, .int v2), (3, .int v3)]) hx hb dX7_looksAt_105 hl (by decide) rfl (fun ls hl => ?_)
    refine lv_iload_n hx hb dX7_looksAt_107 rfl (lv_at hl 6 rfl) ?_
    refine lv_bipush (v := 8) hx hb dX7_looksAt_108 (by decide) ?_
    refine lv_idiv hx hb dX7_looksAt_110 (by decide) ?_
    refine lv_iload hx hb dX7_looksAt_111 (lv_at hl 1 rfl) ?_
    refine lv_isub hx hb dX7_looksAt_113 ?_
    refine lv_istore (lv' := [(8, .int ((v2 / 8) - ((g.1 2 (Int32.toNatClampNeg v1)) / 8))), (7, .int ((v2 - v2 / 8 * 8) - ((g.1 2 (Int32.toNatClampNeg v1)) - (g.1 2 (Int32.toNatClampNeg v1)) / 8 * 8))), (6, .int ((g.1 2 (Int32.toNatClampNeg v1)) / 8)), (5, .int ((g.1 2 (Int32.toNatClampNeg v1)) - (g.1 2 (Int32.toNatClampNeg v1)) / 8 * 8)), (4, .int (t1 + t0)), (0, .ref (a 0)), (1, .int v1), (2, .int v2), (3, .int v3)]) hx hb dX7_looksAt_114 hl (by decide) rfl (fun ls hl => ?_)
    refine lv_iload hx hb dX7_looksAt_116 (lv_at hl 1 rfl) ?_
    refine va_mabs hx hb (hml.trans hl.1.symm) hown (hts _ (List.mem_of_getElem? (i := 3) rfl)) (hts _ (List.mem_of_getElem? (i := 4) rfl)) (hts _ (List.mem_of_getElem? (i := 5) rfl)) (hts _ (List.mem_of_getElem? (i := 6) rfl)) (Nat.le_of_ble_eq_true rfl) (Nat.le_of_ble_eq_true rfl) (Nat.zero_le _) (Nat.zero_le _) dX7_looksAt_118 ?_
    refine lv_iload hx hb dX7_looksAt_121 (lv_at hl 0 rfl) ?_
    refine va_mabs hx hb (hml.trans hl.1.symm) hown (hts _ (List.mem_of_getElem? (i := 3) rfl)) (hts _ (List.mem_of_getElem? (i := 4) rfl)) (hts _ (List.mem_of_getElem? (i := 5) rfl)) (hts _ (List.mem_of_getElem? (i := 6) rfl)) (Nat.le_of_ble_eq_true rfl) (Nat.le_of_ble_eq_true rfl) (Nat.zero_le _) (Nat.zero_le _) dX7_looksAt_123 ?_
    refine va_mmax hx hb (hml.trans hl.1.symm) hown (hts _ (List.mem_of_getElem? (i := 7) rfl)) (hts _ (List.mem_of_getElem? (i := 8) rfl)) (hts _ (List.mem_of_getElem? (i := 5) rfl)) (hts _ (List.mem_of_getElem? (i := 9) rfl)) (Nat.le_of_ble_eq_true rfl) (Nat.le_of_ble_eq_true rfl) (Nat.zero_le _) (Nat.zero_le _) dX7_looksAt_126 ?_
    refine lv_istore (lv' := [(9, .int (if (if 0 ≤ ((v2 - v2 / 8 * 8) - ((g.1 2 (Int32.toNatClampNeg v1)) - (g.1 2 (Int32.toNatClampNeg v1)) / 8 * 8)) then ((v2 - v2 / 8 * 8) - ((g.1 2 (Int32.toNatClampNeg v1)) - (g.1 2 (Int32.toNatClampNeg v1)) / 8 * 8)) else 0 - ((v2 - v2 / 8 * 8) - ((g.1 2 (Int32.toNatClampNeg v1)) - (g.1 2 (Int32.toNatClampNeg v1)) / 8 * 8))) < (if 0 ≤ ((v2 / 8) - ((g.1 2 (Int32.toNatClampNeg v1)) / 8)) then ((v2 / 8) - ((g.1 2 (Int32.toNatClampNeg v1)) / 8)) else 0 - ((v2 / 8) - ((g.1 2 (Int32.toNatClampNeg v1)) / 8))) then (if 0 ≤ ((v2 / 8) - ((g.1 2 (Int32.toNatClampNeg v1)) / 8)) then ((v2 / 8) - ((g.1 2 (Int32.toNatClampNeg v1)) / 8)) else 0 - ((v2 / 8) - ((g.1 2 (Int32.toNatClampNeg v1)) / 8))) else (if 0 ≤ ((v2 - v2 / 8 * 8) - ((g.1 2 (Int32.toNatClampNeg v1)) - (g.1 2 (Int32.toNatClampNeg v1)) / 8 * 8)) then ((v2 - v2 / 8 * 8) - ((g.1 2 (Int32.toNatClampNeg v1)) - (g.1 2 (Int32.toNatClampNeg v1)) / 8 * 8)) else 0 - ((v2 - v2 / 8 * 8) - ((g.1 2 (Int32.toNatClampNeg v1)) - (g.1 2 (Int32.toNatClampNeg v1)) / 8 * 8))))), (8, .int ((v2 / 8) - ((g.1 2 (Int32.toNatClampNeg v1)) / 8))), (7, .int ((v2 - v2 / 8 * 8) - ((g.1 2 (Int32.toNatClampNeg v1)) - (g.1 2 (Int32.toNatClampNeg v1)) / 8 * 8))), (6, .int ((g.1 2 (Int32.toNatClampNeg v1)) / 8)), (5, .int ((g.1 2 (Int32.toNatClampNeg v1)) - (g.1 2 (Int32.toNatClampNeg v1)) / 8 * 8)), (4, .int (t1 + t0)), (0, .ref (a 0)), (1, .int v1), (2, .int v2), (3, .int v3)]) hx hb dX7_looksAt_129 hl (by decide) rfl (fun ls hl => ?_)
    refine lv_iload hx hb dX7_looksAt_131 (lv_at hl 0 rfl) ?_
    refine lv_iload hx hb dX7_looksAt_133 (lv_at hl 5 rfl) ?_
    refine lv_icmp_gt (tgt := 142) hx hb dX7_looksAt_135 (by decide) (fun c => ?_) (fun c => ?_)
    · have hv := hv.1 c
      refine lv_iconst (v := 0) hx hb dX7_looksAt_142 (by decide) ?_
      exact j_143  _ _ _ _ _ _ _ _  hv _ _ _ hE (lv_sub hl [6, 9, 4, 3, 2, 1, 0] rfl)
    · have hv := hv.2 c
      refine lv_iconst (v := 1) hx hb dX7_looksAt_138 (by decide) ?_
      refine lv_goto (tgt := 143) hx hb dX7_looksAt_139 (by decide) ?_
      exact j_143  _ _ _ _ _ _ _ _  hv _ _ _ hE (lv_sub hl [6, 9, 4, 3, 2, 1, 0] rfl)
  have j_64 : ∀ (v1 : Int32) (v2 : Int32) (v3 : Int32) (t0 : Int32) (g : St), J_X7_looksAt_64 x1 x2 post v1 v2 v3 t0 g → ∀ (H : Heap) (locs : List Loc) (ls : Array Slot), uE D 16 mA (mO a) cs a F s g H locs → lv_has ls 13 [(0, .ref (a 0)), (1, .int v1), (2, .int v2), (3, .int v3)] → W p l e rm_X7_looksAt s m args below meth c H locs 0 0 (MQ below (va_Qi post (uB D (uW 16 mA (mO a) cs a)) F) args s 0 0 F) (F0 m 64 ls [.int t0]) := by
    intro  v1 v2 v3 t0 g  hv
    intro H locs ls hE hl
    unfold J_X7_looksAt_64 at hv
    refine lv_iload_n hx hb dX7_looksAt_64 rfl (lv_at hl 3 rfl) ?_
    refine lv_if_eq (tgt := 72) hx hb dX7_looksAt_65 (by decide) (fun c => ?_) (fun c => ?_)
    · have hv := hv.1 c
      refine lv_iconst (v := 0) hx hb dX7_looksAt_72 (by decide) ?_
      exact j_73  _ _ _ _ _ _  hv _ _ _ hE (lv_sub hl [0, 1, 2, 3] rfl)
    · have hv := hv.2 c
      refine lv_iconst (v := 1) hx hb dX7_looksAt_68 (by decide) ?_
      refine lv_goto (tgt := 73) hx hb dX7_looksAt_69 (by decide) ?_
      exact j_73  _ _ _ _ _ _  hv _ _ _ hE (lv_sub hl [0, 1, 2, 3] rfl)
  have j_32 : ∀ (v1 : Int32) (v2 : Int32) (t0 : Int32) (g : St), J_X7_looksAt_32 x1 x2 post v1 v2 t0 g → ∀ (H : Heap) (locs : List Loc) (ls : Array Slot), uE D 16 mA (mO a) cs a F s g H locs → lv_has ls 13 [(0, .ref (a 0)), (1, .int v1), (2, .int v2)] → W p l e rm_X7_looksAt s m args below meth c H locs 0 0 (MQ below (va_Qi post (uB D (uW 16 mA (mO a) cs a)) F) args s 0 0 F) (F0 m 32 ls [.int t0]) := by
    intro  v1 v2 t0 g  hv
    intro H locs ls hE hl
    unfold J_X7_looksAt_32 at hv
    refine lv_istore_n (lv' := [(3, .int t0), (0, .ref (a 0)), (1, .int v1), (2, .int v2)]) hx hb dX7_looksAt_32 rfl hl (by decide) rfl (fun ls hl => ?_)
    refine lv_aload_n hx hb dX7_looksAt_33 rfl (lv_at hl 1 rfl) ?_
    refine G_get (v := .ref (a 7)) hC hE (fun _ h => List.mem_cons_of_mem _ (List.mem_append_left _ (List.mem_append_left _ (List.mem_append_right _ h)))) f_model rfl 6 (by decide) (hts (.fieldLink RX7 28 "SeedBattleModel" "kind" "[C") (List.mem_of_getElem? (i := 2) rfl)) rfl dX7_looksAt_34 ?_
    refine lv_iload_n hx hb dX7_looksAt_37 rfl (lv_at hl 2 rfl) ?_
    refine G_cald hC hE f_m_kind hv.1 dX7_looksAt_38 ?_
    have hv := hv.2
    refine lv_bipush (v := 115) hx hb dX7_looksAt_39 (by decide) ?_
    refine lv_icmp_ne (tgt := 48) hx hb dX7_looksAt_41 (by decide) (fun c => ?_) (fun c => ?_)
    · have hv := hv.1 c
      refine lv_aload_n hx hb dX7_looksAt_48 rfl (lv_at hl 1 rfl) ?_
      refine G_get (v := .ref (a 7)) hC hE (fun _ h => List.mem_cons_of_mem _ (List.mem_append_left _ (List.mem_append_left _ (List.mem_append_right _ h)))) f_model rfl 6 (by decide) (hts (.fieldLink RX7 28 "SeedBattleModel" "kind" "[C") (List.mem_of_getElem? (i := 2) rfl)) rfl dX7_looksAt_49 ?_
      refine lv_iload_n hx hb dX7_looksAt_52 rfl (lv_at hl 2 rfl) ?_
      refine G_cald hC hE f_m_kind hv.1 dX7_looksAt_53 ?_
      have hv := hv.2
      refine lv_bipush (v := 97) hx hb dX7_looksAt_54 (by decide) ?_
      refine lv_icmp_ne (tgt := 63) hx hb dX7_looksAt_56 (by decide) (fun c => ?_) (fun c => ?_)
      · have hv := hv.1 c
        refine lv_iconst (v := 4) hx hb dX7_looksAt_63 (by decide) ?_
        exact j_64  _ _ _ _ _  hv _ _ _ hE (lv_sub hl [1, 2, 3, 0] rfl)
      · have hv := hv.2 c
        refine lv_iconst (v := 2) hx hb dX7_looksAt_59 (by decide) ?_
        refine lv_goto (tgt := 64) hx hb dX7_looksAt_60 (by decide) ?_
        exact j_64  _ _ _ _ _  hv _ _ _ hE (lv_sub hl [1, 2, 3, 0] rfl)
    · have hv := hv.2 c
      refine lv_iconst (v := 3) hx hb dX7_looksAt_44 (by decide) ?_
      refine lv_goto (tgt := 64) hx hb dX7_looksAt_45 (by decide) ?_
      exact j_64  _ _ _ _ _  hv _ _ _ hE (lv_sub hl [1, 2, 3, 0] rfl)
  refine lv_aload_n hx hb dX7_looksAt_0 rfl (lv_at hl 0 rfl) ?_
  refine G_get (v := .ref (a 2)) hC hE (fun _ h => List.mem_cons_of_mem _ (List.mem_append_left _ (List.mem_append_left _ (List.mem_append_right _ h)))) f_model rfl 1 (by decide) (hts (.fieldLink RX7 13 "SeedBattleModel" "cell" "[I") (List.mem_of_getElem? (i := 1) rfl)) rfl dX7_looksAt_1 ?_
  refine lv_iload_n hx hb dX7_looksAt_4 rfl (lv_at hl 1 rfl) ?_
  refine G_iald hC hE f_m_cell hv.1 dX7_looksAt_5 ?_
  have hv := hv.2
  refine lv_iconst (v := (-1)) hx hb dX7_looksAt_6 (by decide) ?_
  refine lv_icmp_ne (tgt := 12) hx hb dX7_looksAt_7 (by decide) (fun c => ?_) (fun c => ?_)
  · have hv := hv.1 c
    refine lv_aload_n hx hb dX7_looksAt_12 rfl (lv_at hl 0 rfl) ?_
    refine lv_aload_n hx hb dX7_looksAt_13 rfl (lv_at hl 0 rfl) ?_
    refine G_get (v := .ref (a 2)) hC hE (fun _ h => List.mem_cons_of_mem _ (List.mem_append_left _ (List.mem_append_left _ (List.mem_append_right _ h)))) f_model rfl 1 (by decide) (hts (.fieldLink RX7 13 "SeedBattleModel" "cell" "[I") (List.mem_of_getElem? (i := 1) rfl)) rfl dX7_looksAt_14 ?_
    refine lv_iload_n hx hb dX7_looksAt_17 rfl (lv_at hl 1 rfl) ?_
    refine G_iald hC hE f_m_cell hv.1 dX7_looksAt_18 ?_
    have hv := hv.2
    refine G_callVi hC (c_X7_groundOf l D cs az a (g.1 2 (Int32.toNatClampNeg x1)) g _ hv) (cwV 1 hts gX7_looksAt_X7_groundOf rfl rfl rfl (by decide +kernel) ⟨Nat.le_of_ble_eq_true rfl, Nat.le_of_ble_eq_true rfl⟩) f_model rfl rfl hl rfl (Nat.le_of_ble_eq_true rfl) dX7_looksAt_19 hE (fun r2 g1 H locs hv hE => ?_)
    refine lv_bipush (v := 104) hx hb dX7_looksAt_22 (by decide) ?_
    refine lv_icmp_ne (tgt := 31) hx hb dX7_looksAt_24 (by decide) (fun c => ?_) (fun c => ?_)
    · have hv := hv.1 c
      refine lv_iconst (v := 0) hx hb dX7_looksAt_31 (by decide) ?_
      exact j_32  _ _ _ _  hv _ _ _ hE (lv_sub hl [0, 1, 2] rfl)
    · have hv := hv.2 c
      refine lv_iconst (v := 1) hx hb dX7_looksAt_27 (by decide) ?_
      refine lv_goto (tgt := 32) hx hb dX7_looksAt_28 (by decide) ?_
      exact j_32  _ _ _ _  hv _ _ _ hE (lv_sub hl [0, 1, 2] rfl)
  · have hv := hv.2 c
    refine lv_iconst (v := 0) hx hb dX7_looksAt_10 (by decide) ?_
    exact G_zret hC hr hk hE rfl hv dX7_looksAt_11
def J_X7_watches_31 (x1 : Int32) (x2 : Int32) (post : Int32 → St → Prop) (K2 : (Int32 × Int32 × Int32 × St) → Prop) (v1 : Int32) (v2 : Int32) (v3 : Int32) (g : St) : Prop := K2 (v1, v2, (v3 + 1), g)
def J_X7_watches_2 (x1 : Int32) (x2 : Int32) (post : Int32 → St → Prop) (K2 : (Int32 × Int32 × Int32 × St) → Prop) (v1 : Int32) (v2 : Int32) (v3 : Int32) (g : St) : Prop := (((g.2 2) ≤ v3 → post 0 g) ∧ (¬ (g.2 2) ≤ v3 → vp_in v3 24 ∧ (((¬ (g.1 1 (Int32.toNatClampNeg v3)) = v1 → J_X7_watches_31 x1 x2 post K2 v1 v2 v3 g) ∧ ((g.1 1 (Int32.toNatClampNeg v3)) = v1 → V_X7_looksAt v3 v2 g (fun r2 g1 => ((r2 = 0 → J_X7_watches_31 x1 x2 post K2 v1 v2 v3 g1) ∧ (¬ r2 = 0 → post 1 g1))))))))
def V_X7_watches (x1 : Int32) (x2 : Int32) (g : St) (post : Int32 → St → Prop) : Prop := lpP (fun K2 (z : Int32 × Int32 × Int32 × St) => J_X7_watches_2 x1 x2 post K2 z.1 z.2.1 z.2.2.1 z.2.2.2) (x1, x2, 0, g)
abbrev rm_X7_watches : Room := { frames := 2, cells := 0, slots := 0, locals := 56 }
set_option maxHeartbeats 4000000 in
set_option maxRecDepth 100000 in
theorem c_X7_watches (l : Launch) (D : va_G) (cs az a : Nat → Nat) (x1 : Int32) (x2 : Int32) (g : St) (post : Int32 → St → Prop) (hv : V_X7_watches x1 x2 g post) : uMi l yX7_watches wsX7_watches rm_X7_watches D cs az (mW cs a) [.ref (a 0), .int x1, .int x2] g post := by
  refine u_ofI (cc := cX7_watches) (maxL := 4) (by decide) rfl (Nat.le_of_ble_eq_true rfl) ?_
  intro p e s m args below meth c F ls hC hr hk hl hE
  have hx := hC.1.1; have hb := hC.1.2.1; have hml := hC.1.2.2.1; have hts := hC.1.2.2.2.2
  have hown : s.vm.findClass RX7 = some m.cls := hC.1.2.2.2.1
  have hl : lv_has ls 4 [(0, .ref (a 0)), (1, .int x1), (2, .int x2)] := hl
  unfold V_X7_watches at hv
  have j_31 : ∀ (K2 : (Int32 × Int32 × Int32 × St) → Prop), (∀ (v1 : Int32) (v2 : Int32) (v3 : Int32) (g : St), K2 (v1, v2, v3, g) → ∀ (H : Heap) (locs : List Loc) (ls : Array Slot), uE D 16 mA (mO a) cs a F s g H locs → lv_has ls 4 [(0, .ref (a 0)), (1, .int v1), (2, .int v2), (3, .int v3)] → W p l e rm_X7_watches s m args below meth c H locs 0 0 (MQ below (va_Qi post (uB D (uW 16 mA (mO a) cs a)) F) args s 0 0 F) (F0 m 2 ls [])) → ∀ (v1 : Int32) (v2 : Int32) (v3 : Int32) (g : St), J_X7_watches_31 x1 x2 post K2 v1 v2 v3 g → ∀ (H : Heap) (locs : List Loc) (ls : Array Slot), uE D 16 mA (mO a) cs a F s g H locs → lv_has ls 4 [(0, .ref (a 0)), (1, .int v1), (2, .int v2), (3, .int v3)] → W p l e rm_X7_watches s m args below meth c H locs 0 0 (MQ below (va_Qi post (uB D (uW 16 mA (mO a) cs a)) F) args s 0 0 F) (F0 m 31 ls []) := by
    intro K2 hK2 v1 v2 v3 g  hv
    intro H locs ls hE hl
    unfold J_X7_watches_31 at hv
    refine lv_iinc (v := (v3 + 1)) (lv' := [(3, .int (v3 + 1)), (0, .ref (a 0)), (1, .int v1), (2, .int v2)]) hx hb dX7_watches_31 hl (k := 3) rfl rfl (by decide) rfl (fun ls hl => ?_)
    refine lv_goto (tgt := 2) hx hb dX7_watches_34 (by decide) ?_
    exact hK2 _ _ _ _  hv _ _ _ hE (lv_sub hl [1, 2, 3, 0] rfl)
  have j_2 : ∀ (v1 : Int32) (v2 : Int32) (v3 : Int32) (g : St), lpP (fun K2 (z : Int32 × Int32 × Int32 × St) => J_X7_watches_2 x1 x2 post K2 z.1 z.2.1 z.2.2.1 z.2.2.2) (v1, v2, v3, g) → ∀ (H : Heap) (locs : List Loc) (ls : Array Slot), uE D 16 mA (mO a) cs a F s g H locs → lv_has ls 4 [(0, .ref (a 0)), (1, .int v1), (2, .int v2), (3, .int v3)] → W p l e rm_X7_watches s m args below meth c H locs 0 0 (MQ below (va_Qi post (uB D (uW 16 mA (mO a) cs a)) F) args s 0 0 F) (F0 m 2 ls []) := by
    intro  v1 v2 v3 g  hv
    obtain ⟨nn, hv⟩ := hv
    induction nn generalizing v1 v2 v3 g with
    | zero => exact False.elim hv
    | succ nn hK2 =>
      intro H locs ls hE hl
      have hv : J_X7_watches_2 x1 x2 post (itP _ nn) v1 v2 v3 g := hv
      unfold J_X7_watches_2 at hv
      refine lv_iload_n hx hb dX7_watches_2 rfl (lv_at hl 3 rfl) ?_
      refine lv_aload_n hx hb dX7_watches_3 rfl (lv_at hl 0 rfl) ?_
      refine G_get (v := .int (g.2 2)) hC hE (fun _ h => List.mem_cons_of_mem _ (List.mem_append_left _ (List.mem_append_left _ (List.mem_append_right _ h)))) f_model rfl 17 (by decide) (hts (.fieldLink RX7 65 "SeedBattleModel" "units" "I") (List.mem_of_getElem? (i := 1) rfl)) rfl dX7_watches_4 ?_
      refine lv_icmp_ge (tgt := 37) hx hb dX7_watches_7 (by decide) (fun c => ?_) (fun c => ?_)
      · have hv := hv.1 c
        refine lv_iconst (v := 0) hx hb dX7_watches_37 (by decide) ?_
        exact G_zret hC hr hk hE rfl hv dX7_watches_38
      · have hv := hv.2 c
        refine lv_aload_n hx hb dX7_watches_10 rfl (lv_at hl 0 rfl) ?_
        refine G_get (v := .ref (a 1)) hC hE (fun _ h => List.mem_cons_of_mem _ (List.mem_append_left _ (List.mem_append_left _ (List.mem_append_right _ h)))) f_model rfl 0 (by decide) (hts (.fieldLink RX7 7 "SeedBattleModel" "player" "[I") (List.mem_of_getElem? (i := 2) rfl)) rfl dX7_watches_11 ?_
        refine lv_iload_n hx hb dX7_watches_14 rfl (lv_at hl 3 rfl) ?_
        refine G_iald hC hE f_m_player hv.1 dX7_watches_15 ?_
        have hv := hv.2
        refine lv_iload_n hx hb dX7_watches_16 rfl (lv_at hl 1 rfl) ?_
        refine lv_icmp_ne (tgt := 31) hx hb dX7_watches_17 (by decide) (fun c => ?_) (fun c => ?_)
        · have hv := hv.1 c
          exact j_31 _ hK2 _ _ _ _  hv _ _ _ hE (lv_sub hl [0, 1, 2, 3] rfl)
        · have hv := hv.2 c
          refine lv_aload_n hx hb dX7_watches_20 rfl (lv_at hl 0 rfl) ?_
          refine lv_iload_n hx hb dX7_watches_21 rfl (lv_at hl 3 rfl) ?_
          refine lv_iload_n hx hb dX7_watches_22 rfl (lv_at hl 2 rfl) ?_
          refine G_callVi hC (c_X7_looksAt l D cs az a v3 v2 g _ hv) (cwV 2 hts gX7_watches_X7_looksAt rfl rfl rfl (by decide +kernel) ⟨Nat.le_of_ble_eq_true rfl, Nat.le_of_ble_eq_true rfl⟩) f_model rfl rfl hl rfl (Nat.le_of_ble_eq_true rfl) dX7_watches_23 hE (fun r2 g1 H locs hv hE => ?_)
          refine lv_if_eq (tgt := 31) hx hb dX7_watches_26 (by decide) (fun c => ?_) (fun c => ?_)
          · have hv := hv.1 c
            exact j_31 _ hK2 _ _ _ _  hv _ _ _ hE (lv_sub hl [0, 1, 2, 3] rfl)
          · have hv := hv.2 c
            refine lv_iconst (v := 1) hx hb dX7_watches_29 (by decide) ?_
            exact G_zret hC hr hk hE rfl hv dX7_watches_30
  refine lv_iconst (v := 0) hx hb dX7_watches_0 (by decide) ?_
  refine lv_istore_n (lv' := [(3, .int 0), (0, .ref (a 0)), (1, .int x1), (2, .int x2)]) hx hb dX7_watches_1 rfl hl (by decide) rfl (fun ls hl => ?_)
  exact j_2  _ _ _ _  hv _ _ _ hE (lv_sub hl [1, 2, 3, 0] rfl)
def V_X7_numberOf (x1 : Int32) (g : St) (post : Int32 → St → Prop) : Prop := vp_in x1 24 ∧ (post (((100000 * (g.2 3)) + (1000 * (g.1 2 (Int32.toNatClampNeg x1)))) + x1) g)
abbrev rm_X7_numberOf : Room := { frames := 0, cells := 0, slots := 0, locals := 0 }
set_option maxHeartbeats 4000000 in
set_option maxRecDepth 100000 in
theorem c_X7_numberOf (l : Launch) (D : va_G) (cs az a : Nat → Nat) (x1 : Int32) (g : St) (post : Int32 → St → Prop) (hv : V_X7_numberOf x1 g post) : uMi l yX7_numberOf wsX7_numberOf rm_X7_numberOf D cs az (mW cs a) [.ref (a 0), .int x1] g post := by
  refine u_ofI (cc := cX7_numberOf) (maxL := 2) (by decide) rfl (Nat.le_of_ble_eq_true rfl) ?_
  intro p e s m args below meth c F ls hC hr hk hl hE
  have hx := hC.1.1; have hb := hC.1.2.1; have hml := hC.1.2.2.1; have hts := hC.1.2.2.2.2
  have hown : s.vm.findClass RX7 = some m.cls := hC.1.2.2.2.1
  have hl : lv_has ls 2 [(0, .ref (a 0)), (1, .int x1)] := hl
  unfold V_X7_numberOf at hv
  refine lv_ldc (v := 100000) hx hb hown (hts (.constant RX7 152 (100000)) (List.mem_of_getElem? (i := 1) rfl)) dX7_numberOf_0 ?_
  refine lv_aload_n hx hb dX7_numberOf_2 rfl (lv_at hl 0 rfl) ?_
  refine G_get (v := .int (g.2 3)) hC hE (fun _ h => List.mem_cons_of_mem _ (List.mem_append_left _ (List.mem_append_right _ h))) f_model rfl 18 (by decide) (hts (.fieldLink RX7 84 "SeedBattleModel" "done" "I") (List.mem_of_getElem? (i := 2) rfl)) rfl dX7_numberOf_3 ?_
  refine lv_imul hx hb dX7_numberOf_6 ?_
  refine lv_sipush (v := 1000) hx hb dX7_numberOf_7 (by decide) ?_
  refine lv_aload_n hx hb dX7_numberOf_10 rfl (lv_at hl 0 rfl) ?_
  refine G_get (v := .ref (a 2)) hC hE (fun _ h => List.mem_cons_of_mem _ (List.mem_append_left _ (List.mem_append_right _ h))) f_model rfl 1 (by decide) (hts (.fieldLink RX7 13 "SeedBattleModel" "cell" "[I") (List.mem_of_getElem? (i := 3) rfl)) rfl dX7_numberOf_11 ?_
  refine lv_iload_n hx hb dX7_numberOf_14 rfl (lv_at hl 1 rfl) ?_
  refine G_iald hC hE f_m_cell hv.1 dX7_numberOf_15 ?_
  have hv := hv.2
  refine lv_imul hx hb dX7_numberOf_16 ?_
  refine lv_iadd hx hb dX7_numberOf_17 ?_
  refine lv_iload_n hx hb dX7_numberOf_18 rfl (lv_at hl 1 rfl) ?_
  refine lv_iadd hx hb dX7_numberOf_19 ?_
  exact G_iret hC hr hk hE hv dX7_numberOf_20
def V_X7_isSighted (x1 : Int32) (x2 : Int32) (g : St) (post : Int32 → St → Prop) : Prop := vp_in x2 24 ∧ ((((g.1 2 (Int32.toNatClampNeg x2)) = (-1) → post 0 g) ∧ (¬ (g.1 2 (Int32.toNatClampNeg x2)) = (-1) → vp_in x2 24 ∧ ((((g.1 1 (Int32.toNatClampNeg x2)) = x1 → post 0 g) ∧ (¬ (g.1 1 (Int32.toNatClampNeg x2)) = x1 → vp_in x2 24 ∧ (V_X7_watches x1 (g.1 2 (Int32.toNatClampNeg x2)) g (fun r2 g1 => ((r2 = 0 → post 0 g1) ∧ (¬ r2 = 0 → post 1 g1))))))))))
abbrev rm_X7_isSighted : Room := { frames := 3, cells := 0, slots := 0, locals := 79 }
set_option maxHeartbeats 4000000 in
set_option maxRecDepth 100000 in
theorem c_X7_isSighted (l : Launch) (D : va_G) (cs az a : Nat → Nat) (x1 : Int32) (x2 : Int32) (g : St) (post : Int32 → St → Prop) (hv : V_X7_isSighted x1 x2 g post) : uMi l yX7_isSighted wsX7_isSighted rm_X7_isSighted D cs az (mW cs a) [.ref (a 0), .int x1, .int x2] g post := by
  refine u_ofI (cc := cX7_isSighted) (maxL := 3) (by decide) rfl (Nat.le_of_ble_eq_true rfl) ?_
  intro p e s m args below meth c F ls hC hr hk hl hE
  have hx := hC.1.1; have hb := hC.1.2.1; have hml := hC.1.2.2.1; have hts := hC.1.2.2.2.2
  have hown : s.vm.findClass RX7 = some m.cls := hC.1.2.2.2.1
  have hl : lv_has ls 3 [(0, .ref (a 0)), (1, .int x1), (2, .int x2)] := hl
  unfold V_X7_isSighted at hv
  refine lv_aload_n hx hb dX7_isSighted_0 rfl (lv_at hl 0 rfl) ?_
  refine G_get (v := .ref (a 2)) hC hE (fun _ h => List.mem_cons_of_mem _ (List.mem_append_left _ (List.mem_append_left _ (List.mem_append_right _ h)))) f_model rfl 1 (by decide) (hts (.fieldLink RX7 13 "SeedBattleModel" "cell" "[I") (List.mem_of_getElem? (i := 1) rfl)) rfl dX7_isSighted_1 ?_
  refine lv_iload_n hx hb dX7_isSighted_4 rfl (lv_at hl 2 rfl) ?_
  refine G_iald hC hE f_m_cell hv.1 dX7_isSighted_5 ?_
  have hv := hv.2
  refine lv_iconst (v := (-1)) hx hb dX7_isSighted_6 (by decide) ?_
  refine lv_icmp_eq (tgt := 38) hx hb dX7_isSighted_7 (by decide) (fun c => ?_) (fun c => ?_)
  · have hv := hv.1 c
    refine lv_iconst (v := 0) hx hb dX7_isSighted_38 (by decide) ?_
    exact G_zret hC hr hk hE rfl hv dX7_isSighted_39
  · have hv := hv.2 c
    refine lv_aload_n hx hb dX7_isSighted_10 rfl (lv_at hl 0 rfl) ?_
    refine G_get (v := .ref (a 1)) hC hE (fun _ h => List.mem_cons_of_mem _ (List.mem_append_left _ (List.mem_append_left _ (List.mem_append_right _ h)))) f_model rfl 0 (by decide) (hts (.fieldLink RX7 7 "SeedBattleModel" "player" "[I") (List.mem_of_getElem? (i := 2) rfl)) rfl dX7_isSighted_11 ?_
    refine lv_iload_n hx hb dX7_isSighted_14 rfl (lv_at hl 2 rfl) ?_
    refine G_iald hC hE f_m_player hv.1 dX7_isSighted_15 ?_
    have hv := hv.2
    refine lv_iload_n hx hb dX7_isSighted_16 rfl (lv_at hl 1 rfl) ?_
    refine lv_icmp_eq (tgt := 38) hx hb dX7_isSighted_17 (by decide) (fun c => ?_) (fun c => ?_)
    · have hv := hv.1 c
      refine lv_iconst (v := 0) hx hb dX7_isSighted_38 (by decide) ?_
      exact G_zret hC hr hk hE rfl hv dX7_isSighted_39
    · have hv := hv.2 c
      refine lv_aload_n hx hb dX7_isSighted_20 rfl (lv_at hl 0 rfl) ?_
      refine lv_iload_n hx hb dX7_isSighted_21 rfl (lv_at hl 1 rfl) ?_
      refine lv_aload_n hx hb dX7_isSighted_22 rfl (lv_at hl 0 rfl) ?_
      refine G_get (v := .ref (a 2)) hC hE (fun _ h => List.mem_cons_of_mem _ (List.mem_append_left _ (List.mem_append_left _ (List.mem_append_right _ h)))) f_model rfl 1 (by decide) (hts (.fieldLink RX7 13 "SeedBattleModel" "cell" "[I") (List.mem_of_getElem? (i := 1) rfl)) rfl dX7_isSighted_23 ?_
      refine lv_iload_n hx hb dX7_isSighted_26 rfl (lv_at hl 2 rfl) ?_
      refine G_iald hC hE f_m_cell hv.1 dX7_isSighted_27 ?_
      have hv := hv.2
      refine G_callVi hC (c_X7_watches l D cs az a x1 (g.1 2 (Int32.toNatClampNeg x2)) g _ hv) (cwV 2 hts gX7_isSighted_X7_watches rfl rfl rfl (by decide +kernel) ⟨Nat.le_of_ble_eq_true rfl, Nat.le_of_ble_eq_true rfl⟩) f_model rfl rfl hl rfl (Nat.le_of_ble_eq_true rfl) dX7_isSighted_28 hE (fun r2 g1 H locs hv hE => ?_)
      refine lv_if_eq (tgt := 38) hx hb dX7_isSighted_31 (by decide) (fun c => ?_) (fun c => ?_)
      · have hv := hv.1 c
        refine lv_iconst (v := 0) hx hb dX7_isSighted_38 (by decide) ?_
        exact G_zret hC hr hk hE rfl hv dX7_isSighted_39
      · have hv := hv.2 c
        refine lv_iconst (v := 1) hx hb dX7_isSighted_34 (by decide) ?_
        refine lv_goto (tgt := 39) hx hb dX7_isSighted_35 (by decide) ?_
        exact G_zret hC hr hk hE rfl hv dX7_isSighted_39
def J_X7_adds_166 (x1 : Int32) (x2 : Int32) (post : St → Prop) (K166 : (Int32 × Int32 × St) → Prop) (v3 : Int32) (v5 : Int32) (g : St) : Prop := ((60 ≤ v5 → post g) ∧ (¬ 60 ≤ v5 → vp_in ((v3 + v5) + 1) 244 ∧ (vp_in (v3 + v5) 244 ∧ (K166 (v3, (v5 + 1), (sA g 9 (upd (g.1 9) (Int32.toNatClampNeg (v3 + v5)) (g.1 9 (Int32.toNatClampNeg ((v3 + v5) + 1))))))))))
def J_X7_adds_121 (x1 : Int32) (x2 : Int32) (post : St → Prop)  (v1 : Int32) (v2 : Int32) (v3 : Int32) (v4 : Int32) (g : St) : Prop := vp_in (v3 + v4) 244 ∧ (vp_in v1 4 ∧ (vp_in v1 4 ∧ (vp_in v1 4 ∧ (((60 < ((sA (sA g 9 (upd (g.1 9) (Int32.toNatClampNeg (v3 + v4)) v2)) 10 (upd ((sA g 9 (upd (g.1 9) (Int32.toNatClampNeg (v3 + v4)) v2)).1 10) (Int32.toNatClampNeg v1) (((sA g 9 (upd (g.1 9) (Int32.toNatClampNeg (v3 + v4)) v2)).1 10 (Int32.toNatClampNeg v1)) + 1))).1 10 (Int32.toNatClampNeg v1)) → vp_in v1 4 ∧ (vp_in v1 4 ∧ (lpP (fun K166 (z : Int32 × Int32 × St) => J_X7_adds_166 x1 x2 post K166 z.1 z.2.1 z.2.2) (v3, 0, (sA (sA (sA g 9 (upd (g.1 9) (Int32.toNatClampNeg (v3 + v4)) v2)) 10 (upd ((sA g 9 (upd (g.1 9) (Int32.toNatClampNeg (v3 + v4)) v2)).1 10) (Int32.toNatClampNeg v1) (((sA g 9 (upd (g.1 9) (Int32.toNatClampNeg (v3 + v4)) v2)).1 10 (Int32.toNatClampNeg v1)) + 1))) 10 (upd ((sA (sA g 9 (upd (g.1 9) (Int32.toNatClampNeg (v3 + v4)) v2)) 10 (upd ((sA g 9 (upd (g.1 9) (Int32.toNatClampNeg (v3 + v4)) v2)).1 10) (Int32.toNatClampNeg v1) (((sA g 9 (upd (g.1 9) (Int32.toNatClampNeg (v3 + v4)) v2)).1 10 (Int32.toNatClampNeg v1)) + 1))).1 10) (Int32.toNatClampNeg v1) (((sA (sA g 9 (upd (g.1 9) (Int32.toNatClampNeg (v3 + v4)) v2)) 10 (upd ((sA g 9 (upd (g.1 9) (Int32.toNatClampNeg (v3 + v4)) v2)).1 10) (Int32.toNatClampNeg v1) (((sA g 9 (upd (g.1 9) (Int32.toNatClampNeg (v3 + v4)) v2)).1 10 (Int32.toNatClampNeg v1)) + 1))).1 10 (Int32.toNatClampNeg v1)) - 1))))))) ∧ (¬ 60 < ((sA (sA g 9 (upd (g.1 9) (Int32.toNatClampNeg (v3 + v4)) v2)) 10 (upd ((sA g 9 (upd (g.1 9) (Int32.toNatClampNeg (v3 + v4)) v2)).1 10) (Int32.toNatClampNeg v1) (((sA g 9 (upd (g.1 9) (Int32.toNatClampNeg (v3 + v4)) v2)).1 10 (Int32.toNatClampNeg v1)) + 1))).1 10 (Int32.toNatClampNeg v1)) → post (sA (sA g 9 (upd (g.1 9) (Int32.toNatClampNeg (v3 + v4)) v2)) 10 (upd ((sA g 9 (upd (g.1 9) (Int32.toNatClampNeg (v3 + v4)) v2)).1 10) (Int32.toNatClampNeg v1) (((sA g 9 (upd (g.1 9) (Int32.toNatClampNeg (v3 + v4)) v2)).1 10 (Int32.toNatClampNeg v1)) + 1)))))))))
def J_X7_adds_72 (x1 : Int32) (x2 : Int32) (post : St → Prop) (K72 : (Int32 × Int32 × Int32 × Int32 × St) → Prop) (v1 : Int32) (v2 : Int32) (v3 : Int32) (v4 : Int32) (g : St) : Prop := ((v4 ≤ 0 → J_X7_adds_121 x1 x2 post v1 v2 v3 v4 g) ∧ (¬ v4 ≤ 0 → vp_in ((v3 + v4) - 1) 244 ∧ (V_X7_isBehind (g.1 9 (Int32.toNatClampNeg ((v3 + v4) - 1))) v2 (fun r5 => ((r5 = 0 → J_X7_adds_121 x1 x2 post v1 v2 v3 v4 g) ∧ (¬ r5 = 0 → vp_in ((v3 + v4) - 1) 244 ∧ (vp_in (v3 + v4) 244 ∧ (K72 (v1, v2, v3, (v4 + (-1)), (sA g 9 (upd (g.1 9) (Int32.toNatClampNeg (v3 + v4)) (g.1 9 (Int32.toNatClampNeg ((v3 + v4) - 1))))))))))))))
def J_X7_adds_66 (x1 : Int32) (x2 : Int32) (post : St → Prop) (K16 : (Int32 × Int32 × Int32 × Int32 × Int32 × St) → Prop) (v1 : Int32) (v2 : Int32) (v3 : Int32) (v4 : Int32) (v5 : Int32) (g : St) : Prop := K16 (v1, v2, v3, v4, (v5 + 1), g)
def J_X7_adds_16 (x1 : Int32) (x2 : Int32) (post : St → Prop) (K16 : (Int32 × Int32 × Int32 × Int32 × Int32 × St) → Prop) (v1 : Int32) (v2 : Int32) (v3 : Int32) (v4 : Int32) (v5 : Int32) (g : St) : Prop := vp_in v1 4 ∧ ((((g.1 10 (Int32.toNatClampNeg v1)) ≤ v5 → lpP (fun K72 (z : Int32 × Int32 × Int32 × Int32 × St) => J_X7_adds_72 x1 x2 post K72 z.1 z.2.1 z.2.2.1 z.2.2.2.1 z.2.2.2.2) (v1, v2, v3, v4, g)) ∧ (¬ (g.1 10 (Int32.toNatClampNeg v1)) ≤ v5 → vp_in (v3 + v5) 244 ∧ (V_X7_turnOf (g.1 9 (Int32.toNatClampNeg (v3 + v5))) (fun r1 => V_X7_turnOf v2 (fun r2 => ((¬ r1 = r2 → J_X7_adds_66 x1 x2 post K16 v1 v2 v3 v4 v5 g) ∧ (r1 = r2 → vp_in (v3 + v5) 244 ∧ (V_X7_unitIn (g.1 9 (Int32.toNatClampNeg (v3 + v5))) (fun r3 => V_X7_unitIn v2 (fun r4 => ((¬ r3 = r4 → J_X7_adds_66 x1 x2 post K16 v1 v2 v3 v4 v5 g) ∧ (r3 = r4 → post g)))))))))))))
def V_X7_adds (x1 : Int32) (x2 : Int32) (g : St) (post : St → Prop) : Prop := vp_in x1 4 ∧ (lpP (fun K16 (z : Int32 × Int32 × Int32 × Int32 × Int32 × St) => J_X7_adds_16 x1 x2 post K16 z.1 z.2.1 z.2.2.1 z.2.2.2.1 z.2.2.2.2.1 z.2.2.2.2.2) (x1, x2, (61 * x1), (g.1 10 (Int32.toNatClampNeg x1)), 0, g))
abbrev rm_X7_adds : Room := { frames := 2, cells := 0, slots := 0, locals := 41 }
set_option maxHeartbeats 4000000 in
set_option maxRecDepth 100000 in
theorem c_X7_adds (l : Launch) (D : va_G) (cs az a : Nat → Nat) (x1 : Int32) (x2 : Int32) (g : St) (post : St → Prop) (hv : V_X7_adds x1 x2 g post) : uMv l yX7_adds wsX7_adds rm_X7_adds D cs az (mW cs a) [.ref (a 0), .int x1, .int x2] g post := by
  refine u_ofV (cc := cX7_adds) (maxL := 6) (by decide) rfl (Nat.le_of_ble_eq_true rfl) ?_
  intro p e s m args below meth c F ls hC hr hk hl hE
  have hx := hC.1.1; have hb := hC.1.2.1; have hml := hC.1.2.2.1; have hts := hC.1.2.2.2.2
  have hown : s.vm.findClass RX7 = some m.cls := hC.1.2.2.2.1
  have hl : lv_has ls 6 [(0, .ref (a 0)), (1, .int x1), (2, .int x2)] := hl
  unfold V_X7_adds at hv
  have j_166 : ∀ (v3 : Int32) (v5 : Int32) (g : St), lpP (fun K166 (z : Int32 × Int32 × St) => J_X7_adds_166 x1 x2 post K166 z.1 z.2.1 z.2.2) (v3, v5, g) → ∀ (H : Heap) (locs : List Loc) (ls : Array Slot), uE D 16 mA (mO a) cs a F s g H locs → lv_has ls 6 [(0, .ref (a 0)), (3, .int v3), (5, .int v5)] → W p l e rm_X7_adds s m args below meth c H locs 0 0 (MQ below (va_Qv post (uB D (uW 16 mA (mO a) cs a)) F) args s 0 0 F) (F0 m 166 ls []) := by
    intro  v3 v5 g  hv
    obtain ⟨nn, hv⟩ := hv
    induction nn generalizing v3 v5 g with
    | zero => exact False.elim hv
    | succ nn hK166 =>
      intro H locs ls hE hl
      have hv : J_X7_adds_166 x1 x2 post (itP _ nn) v3 v5 g := hv
      unfold J_X7_adds_166 at hv
      refine lv_iload hx hb dX7_adds_166 (lv_at hl 2 rfl) ?_
      refine lv_bipush (v := 60) hx hb dX7_adds_168 (by decide) ?_
      refine lv_icmp_ge (tgt := 199) hx hb dX7_adds_170 (by decide) (fun c => ?_) (fun c => ?_)
      · have hv := hv.1 c
        exact G_vret hC hr hk hE hv dX7_adds_199
      · have hv := hv.2 c
        refine lv_aload_n hx hb dX7_adds_173 rfl (lv_at hl 0 rfl) ?_
        refine G_get (v := .ref (a 9)) hC hE (fun _ h => List.mem_cons_of_mem _ (List.mem_append_left _ (List.mem_append_right _ h))) f_model rfl 8 (by decide) (hts (.fieldLink RX7 36 "SeedBattleModel" "index" "[I") (List.mem_of_getElem? (i := 2) rfl)) rfl dX7_adds_174 ?_
        refine lv_iload_n hx hb dX7_adds_177 rfl (lv_at hl 1 rfl) ?_
        refine lv_iload hx hb dX7_adds_178 (lv_at hl 2 rfl) ?_
        refine lv_iadd hx hb dX7_adds_180 ?_
        refine lv_aload_n hx hb dX7_adds_181 rfl (lv_at hl 0 rfl) ?_
        refine G_get (v := .ref (a 9)) hC hE (fun _ h => List.mem_cons_of_mem _ (List.mem_append_left _ (List.mem_append_right _ h))) f_model rfl 8 (by decide) (hts (.fieldLink RX7 36 "SeedBattleModel" "index" "[I") (List.mem_of_getElem? (i := 2) rfl)) rfl dX7_adds_182 ?_
        refine lv_iload_n hx hb dX7_adds_185 rfl (lv_at hl 1 rfl) ?_
        refine lv_iload hx hb dX7_adds_186 (lv_at hl 2 rfl) ?_
        refine lv_iadd hx hb dX7_adds_188 ?_
        refine lv_iconst (v := 1) hx hb dX7_adds_189 (by decide) ?_
        refine lv_iadd hx hb dX7_adds_190 ?_
        refine G_iald hC hE f_m_index hv.1 dX7_adds_191 ?_
        have hv := hv.2
        refine G_iast hC hE f_m_index hv.1 dX7_adds_192 (fun H locs hE => ?_)
        have hv := hv.2
        refine lv_iinc (v := (v5 + 1)) (lv' := [(5, .int (v5 + 1)), (0, .ref (a 0)), (3, .int v3)]) hx hb dX7_adds_193 hl (k := 2) rfl rfl (by decide) rfl (fun ls hl => ?_)
        refine lv_goto (tgt := 166) hx hb dX7_adds_196 (by decide) ?_
        exact hK166 _ _ _  hv _ _ _ hE (lv_sub hl [1, 2, 0] rfl)
  have j_121 : ∀ (v1 : Int32) (v2 : Int32) (v3 : Int32) (v4 : Int32) (g : St), J_X7_adds_121 x1 x2 post v1 v2 v3 v4 g → ∀ (H : Heap) (locs : List Loc) (ls : Array Slot), uE D 16 mA (mO a) cs a F s g H locs → lv_has ls 6 [(0, .ref (a 0)), (1, .int v1), (2, .int v2), (3, .int v3), (4, .int v4)] → W p l e rm_X7_adds s m args below meth c H locs 0 0 (MQ below (va_Qv post (uB D (uW 16 mA (mO a) cs a)) F) args s 0 0 F) (F0 m 121 ls []) := by
    intro  v1 v2 v3 v4 g  hv
    intro H locs ls hE hl
    unfold J_X7_adds_121 at hv
    refine lv_aload_n hx hb dX7_adds_121 rfl (lv_at hl 0 rfl) ?_
    refine G_get (v := .ref (a 9)) hC hE (fun _ h => List.mem_cons_of_mem _ (List.mem_append_left _ (List.mem_append_right _ h))) f_model rfl 8 (by decide) (hts (.fieldLink RX7 36 "SeedBattleModel" "index" "[I") (List.mem_of_getElem? (i := 2) rfl)) rfl dX7_adds_122 ?_
    refine lv_iload_n hx hb dX7_adds_125 rfl (lv_at hl 3 rfl) ?_
    refine lv_iload hx hb dX7_adds_126 (lv_at hl 4 rfl) ?_
    refine lv_iadd hx hb dX7_adds_128 ?_
    refine lv_iload_n hx hb dX7_adds_129 rfl (lv_at hl 2 rfl) ?_
    refine G_iast hC hE f_m_index hv.1 dX7_adds_130 (fun H locs hE => ?_)
    have hv := hv.2
    refine lv_aload_n hx hb dX7_adds_131 rfl (lv_at hl 0 rfl) ?_
    refine G_get (v := .ref (a 10)) hC hE (fun _ h => List.mem_cons_of_mem _ (List.mem_append_left _ (List.mem_append_right _ h))) f_model rfl 9 (by decide) (hts (.fieldLink RX7 39 "SeedBattleModel" "size" "[I") (List.mem_of_getElem? (i := 1) rfl)) rfl dX7_adds_132 ?_
    refine lv_iload_n hx hb dX7_adds_135 rfl (lv_at hl 1 rfl) ?_
    refine lv_dup2_11 hx hb dX7_adds_136 rfl rfl ?_
    refine G_iald hC hE f_m_size hv.1 dX7_adds_137 ?_
    have hv := hv.2
    refine lv_iconst (v := 1) hx hb dX7_adds_138 (by decide) ?_
    refine lv_iadd hx hb dX7_adds_139 ?_
    refine G_iast hC hE f_m_size hv.1 dX7_adds_140 (fun H locs hE => ?_)
    have hv := hv.2
    refine lv_aload_n hx hb dX7_adds_141 rfl (lv_at hl 0 rfl) ?_
    refine G_get (v := .ref (a 10)) hC hE (fun _ h => List.mem_cons_of_mem _ (List.mem_append_left _ (List.mem_append_right _ h))) f_model rfl 9 (by decide) (hts (.fieldLink RX7 39 "SeedBattleModel" "size" "[I") (List.mem_of_getElem? (i := 1) rfl)) rfl dX7_adds_142 ?_
    refine lv_iload_n hx hb dX7_adds_145 rfl (lv_at hl 1 rfl) ?_
    refine G_iald hC hE f_m_size hv.1 dX7_adds_146 ?_
    have hv := hv.2
    refine lv_bipush (v := 60) hx hb dX7_adds_147 (by decide) ?_
    refine lv_icmp_gt (tgt := 153) hx hb dX7_adds_149 (by decide) (fun c => ?_) (fun c => ?_)
    · have hv := hv.1 c
      refine lv_aload_n hx hb dX7_adds_153 rfl (lv_at hl 0 rfl) ?_
      refine G_get (v := .ref (a 10)) hC hE (fun _ h => List.mem_cons_of_mem _ (List.mem_append_left _ (List.mem_append_right _ h))) f_model rfl 9 (by decide) (hts (.fieldLink RX7 39 "SeedBattleModel" "size" "[I") (List.mem_of_getElem? (i := 1) rfl)) rfl dX7_adds_154 ?_
      refine lv_iload_n hx hb dX7_adds_157 rfl (lv_at hl 1 rfl) ?_
      refine lv_dup2_11 hx hb dX7_adds_158 rfl rfl ?_
      refine G_iald hC hE f_m_size hv.1 dX7_adds_159 ?_
      have hv := hv.2
      refine lv_iconst (v := 1) hx hb dX7_adds_160 (by decide) ?_
      refine lv_isub hx hb dX7_adds_161 ?_
      refine G_iast hC hE f_m_size hv.1 dX7_adds_162 (fun H locs hE => ?_)
      have hv := hv.2
      refine lv_iconst (v := 0) hx hb dX7_adds_163 (by decide) ?_
      refine lv_istore (lv' := [(5, .int 0), (0, .ref (a 0)), (1, .int v1), (2, .int v2), (3, .int v3), (4, .int v4)]) hx hb dX7_adds_164 hl (by decide) rfl (fun ls hl => ?_)
      exact j_166  _ _ _  hv _ _ _ hE (lv_sub hl [1, 4, 0] rfl)
    · have hv := hv.2 c
      exact G_vret hC hr hk hE hv dX7_adds_152
  have j_72 : ∀ (v1 : Int32) (v2 : Int32) (v3 : Int32) (v4 : Int32) (g : St), lpP (fun K72 (z : Int32 × Int32 × Int32 × Int32 × St) => J_X7_adds_72 x1 x2 post K72 z.1 z.2.1 z.2.2.1 z.2.2.2.1 z.2.2.2.2) (v1, v2, v3, v4, g) → ∀ (H : Heap) (locs : List Loc) (ls : Array Slot), uE D 16 mA (mO a) cs a F s g H locs → lv_has ls 6 [(0, .ref (a 0)), (1, .int v1), (2, .int v2), (3, .int v3), (4, .int v4)] → W p l e rm_X7_adds s m args below meth c H locs 0 0 (MQ below (va_Qv post (uB D (uW 16 mA (mO a) cs a)) F) args s 0 0 F) (F0 m 72 ls []) := by
    intro  v1 v2 v3 v4 g  hv
    obtain ⟨nn, hv⟩ := hv
    induction nn generalizing v1 v2 v3 v4 g with
    | zero => exact False.elim hv
    | succ nn hK72 =>
      intro H locs ls hE hl
      have hv : J_X7_adds_72 x1 x2 post (itP _ nn) v1 v2 v3 v4 g := hv
      unfold J_X7_adds_72 at hv
      refine lv_iload hx hb dX7_adds_72 (lv_at hl 4 rfl) ?_
      refine lv_if_le (tgt := 121) hx hb dX7_adds_74 (by decide) (fun c => ?_) (fun c => ?_)
      · have hv := hv.1 c
        exact j_121  _ _ _ _ _  hv _ _ _ hE (lv_sub hl [0, 1, 2, 3, 4] rfl)
      · have hv := hv.2 c
        refine lv_aload_n hx hb dX7_adds_77 rfl (lv_at hl 0 rfl) ?_
        refine G_get (v := .ref (a 9)) hC hE (fun _ h => List.mem_cons_of_mem _ (List.mem_append_left _ (List.mem_append_right _ h))) f_model rfl 8 (by decide) (hts (.fieldLink RX7 36 "SeedBattleModel" "index" "[I") (List.mem_of_getElem? (i := 2) rfl)) rfl dX7_adds_78 ?_
        refine lv_iload_n hx hb dX7_adds_81 rfl (lv_at hl 3 rfl) ?_
        refine lv_iload hx hb dX7_adds_82 (lv_at hl 4 rfl) ?_
        refine lv_iadd hx hb dX7_adds_84 ?_
        refine lv_iconst (v := 1) hx hb dX7_adds_85 (by decide) ?_
        refine lv_isub hx hb dX7_adds_86 ?_
        refine G_iald hC hE f_m_index hv.1 dX7_adds_87 ?_
        have hv := hv.2
        refine lv_iload_n hx hb dX7_adds_88 rfl (lv_at hl 2 rfl) ?_
        refine G_callSs hC.1 hC.2.2.2.2.1 (c_X7_isBehind l (g.1 9 (Int32.toNatClampNeg ((v3 + v4) - 1))) v2 _ hv) (va_cwS 2 hts gX7_adds_X7_isBehind rfl rfl rfl (by decide +kernel) ⟨Nat.le_of_ble_eq_true rfl, Nat.le_of_ble_eq_true rfl⟩) rfl hl rfl (Nat.le_of_ble_eq_true rfl) dX7_adds_89 (Nat.zero_le _) (Nat.zero_le _) (fun r5 hv => ?_)
        refine lv_if_eq (tgt := 121) hx hb dX7_adds_92 (by decide) (fun c => ?_) (fun c => ?_)
        · have hv := hv.1 c
          exact j_121  _ _ _ _ _  hv _ _ _ hE (lv_sub hl [0, 1, 2, 3, 4] rfl)
        · have hv := hv.2 c
          refine lv_aload_n hx hb dX7_adds_95 rfl (lv_at hl 0 rfl) ?_
          refine G_get (v := .ref (a 9)) hC hE (fun _ h => List.mem_cons_of_mem _ (List.mem_append_left _ (List.mem_append_right _ h))) f_model rfl 8 (by decide) (hts (.fieldLink RX7 36 "SeedBattleModel" "index" "[I") (List.mem_of_getElem? (i := 2) rfl)) rfl dX7_adds_96 ?_
          refine lv_iload_n hx hb dX7_adds_99 rfl (lv_at hl 3 rfl) ?_
          refine lv_iload hx hb dX7_adds_100 (lv_at hl 4 rfl) ?_
          refine lv_iadd hx hb dX7_adds_102 ?_
          refine lv_aload_n hx hb dX7_adds_103 rfl (lv_at hl 0 rfl) ?_
          refine G_get (v := .ref (a 9)) hC hE (fun _ h => List.mem_cons_of_mem _ (List.mem_append_left _ (List.mem_append_right _ h))) f_model rfl 8 (by decide) (hts (.fieldLink RX7 36 "SeedBattleModel" "index" "[I") (List.mem_of_getElem? (i := 2) rfl)) rfl dX7_adds_104 ?_
          refine lv_iload_n hx hb dX7_adds_107 rfl (lv_at hl 3 rfl) ?_
          refine lv_iload hx hb dX7_adds_108 (lv_at hl 4 rfl) ?_
          refine lv_iadd hx hb dX7_adds_110 ?_
          refine lv_iconst (v := 1) hx hb dX7_adds_111 (by decide) ?_
          refine lv_isub hx hb dX7_adds_112 ?_
          refine G_iald hC hE f_m_index hv.1 dX7_adds_113 ?_
          have hv := hv.2
          refine G_iast hC hE f_m_index hv.1 dX7_adds_114 (fun H locs hE => ?_)
          have hv := hv.2
          refine lv_iinc (v := (v4 + (-1))) (lv' := [(4, .int (v4 + (-1))), (0, .ref (a 0)), (1, .int v1), (2, .int v2), (3, .int v3)]) hx hb dX7_adds_115 hl (k := 4) rfl rfl (by decide) rfl (fun ls hl => ?_)
          refine lv_goto (tgt := 72) hx hb dX7_adds_118 (by decide) ?_
          exact hK72 _ _ _ _ _  hv _ _ _ hE (lv_sub hl [1, 2, 3, 4, 0] rfl)
  have j_66 : ∀ (K16 : (Int32 × Int32 × Int32 × Int32 × Int32 × St) → Prop), (∀ (v1 : Int32) (v2 : Int32) (v3 : Int32) (v4 : Int32) (v5 : Int32) (g : St), K16 (v1, v2, v3, v4, v5, g) → ∀ (H : Heap) (locs : List Loc) (ls : Array Slot), uE D 16 mA (mO a) cs a F s g H locs → lv_has ls 6 [(0, .ref (a 0)), (1, .int v1), (2, .int v2), (3, .int v3), (4, .int v4), (5, .int v5)] → W p l e rm_X7_adds s m args below meth c H locs 0 0 (MQ below (va_Qv post (uB D (uW 16 mA (mO a) cs a)) F) args s 0 0 F) (F0 m 16 ls [])) → ∀ (v1 : Int32) (v2 : Int32) (v3 : Int32) (v4 : Int32) (v5 : Int32) (g : St), J_X7_adds_66 x1 x2 post K16 v1 v2 v3 v4 v5 g → ∀ (H : Heap) (locs : List Loc) (ls : Array Slot), uE D 16 mA (mO a) cs a F s g H locs → lv_has ls 6 [(0, .ref (a 0)), (1, .int v1), (2, .int v2), (3, .int v3), (4, .int v4), (5, .int v5)] → W p l e rm_X7_adds s m args below meth c H locs 0 0 (MQ below (va_Qv post (uB D (uW 16 mA (mO a) cs a)) F) args s 0 0 F) (F0 m 66 ls []) := by
    intro K16 hK16 v1 v2 v3 v4 v5 g  hv
    intro H locs ls hE hl
    unfold J_X7_adds_66 at hv
    refine lv_iinc (v := (v5 + 1)) (lv' := [(5, .int (v5 + 1)), (0, .ref (a 0)), (1, .int v1), (2, .int v2), (3, .int v3), (4, .int v4)]) hx hb dX7_adds_66 hl (k := 5) rfl rfl (by decide) rfl (fun ls hl => ?_)
    refine lv_goto (tgt := 16) hx hb dX7_adds_69 (by decide) ?_
    exact hK16 _ _ _ _ _ _  hv _ _ _ hE (lv_sub hl [1, 2, 3, 4, 5, 0] rfl)
  have j_16 : ∀ (v1 : Int32) (v2 : Int32) (v3 : Int32) (v4 : Int32) (v5 : Int32) (g : St), lpP (fun K16 (z : Int32 × Int32 × Int32 × Int32 × Int32 × St) => J_X7_adds_16 x1 x2 post K16 z.1 z.2.1 z.2.2.1 z.2.2.2.1 z.2.2.2.2.1 z.2.2.2.2.2) (v1, v2, v3, v4, v5, g) → ∀ (H : Heap) (locs : List Loc) (ls : Array Slot), uE D 16 mA (mO a) cs a F s g H locs → lv_has ls 6 [(0, .ref (a 0)), (1, .int v1), (2, .int v2), (3, .int v3), (4, .int v4), (5, .int v5)] → W p l e rm_X7_adds s m args below meth c H locs 0 0 (MQ below (va_Qv post (uB D (uW 16 mA (mO a) cs a)) F) args s 0 0 F) (F0 m 16 ls []) := by
    intro  v1 v2 v3 v4 v5 g  hv
    obtain ⟨nn, hv⟩ := hv
    induction nn generalizing v1 v2 v3 v4 v5 g with
    | zero => exact False.elim hv
    | succ nn hK16 =>
      intro H locs ls hE hl
      have hv : J_X7_adds_16 x1 x2 post (itP _ nn) v1 v2 v3 v4 v5 g := hv
      unfold J_X7_adds_16 at hv
      refine lv_iload hx hb dX7_adds_16 (lv_at hl 5 rfl) ?_
      refine lv_aload_n hx hb dX7_adds_18 rfl (lv_at hl 0 rfl) ?_
      refine G_get (v := .ref (a 10)) hC hE (fun _ h => List.mem_cons_of_mem _ (List.mem_append_left _ (List.mem_append_right _ h))) f_model rfl 9 (by decide) (hts (.fieldLink RX7 39 "SeedBattleModel" "size" "[I") (List.mem_of_getElem? (i := 1) rfl)) rfl dX7_adds_19 ?_
      refine lv_iload_n hx hb dX7_adds_22 rfl (lv_at hl 1 rfl) ?_
      refine G_iald hC hE f_m_size hv.1 dX7_adds_23 ?_
      have hv := hv.2
      refine lv_icmp_ge (tgt := 72) hx hb dX7_adds_24 (by decide) (fun c => ?_) (fun c => ?_)
      · have hv := hv.1 c
        exact j_72  _ _ _ _ _  hv _ _ _ hE (lv_sub hl [0, 1, 2, 3, 4] rfl)
      · have hv := hv.2 c
        refine lv_aload_n hx hb dX7_adds_27 rfl (lv_at hl 0 rfl) ?_
        refine G_get (v := .ref (a 9)) hC hE (fun _ h => List.mem_cons_of_mem _ (List.mem_append_left _ (List.mem_append_right _ h))) f_model rfl 8 (by decide) (hts (.fieldLink RX7 36 "SeedBattleModel" "index" "[I") (List.mem_of_getElem? (i := 2) rfl)) rfl dX7_adds_28 ?_
        refine lv_iload_n hx hb dX7_adds_31 rfl (lv_at hl 3 rfl) ?_
        refine lv_iload hx hb dX7_adds_32 (lv_at hl 5 rfl) ?_
        refine lv_iadd hx hb dX7_adds_34 ?_
        refine G_iald hC hE f_m_index hv.1 dX7_adds_35 ?_
        have hv := hv.2
        refine G_callSs hC.1 hC.2.2.2.2.1 (c_X7_turnOf l (g.1 9 (Int32.toNatClampNeg (v3 + v5))) _ hv) (va_cwS 1 hts gX7_adds_X7_turnOf rfl rfl rfl (by decide +kernel) ⟨Nat.le_of_ble_eq_true rfl, Nat.le_of_ble_eq_true rfl⟩) rfl hl rfl (Nat.le_of_ble_eq_true rfl) dX7_adds_36 (Nat.zero_le _) (Nat.zero_le _) (fun r1 hv => ?_)
        refine lv_iload_n hx hb dX7_adds_39 rfl (lv_at hl 2 rfl) ?_
        refine G_callSs hC.1 hC.2.2.2.2.1 (c_X7_turnOf l v2 _ hv) (va_cwS 1 hts gX7_adds_X7_turnOf rfl rfl rfl (by decide +kernel) ⟨Nat.le_of_ble_eq_true rfl, Nat.le_of_ble_eq_true rfl⟩) rfl hl rfl (Nat.le_of_ble_eq_true rfl) dX7_adds_40 (Nat.zero_le _) (Nat.zero_le _) (fun r2 hv => ?_)
        refine lv_icmp_ne (tgt := 66) hx hb dX7_adds_43 (by decide) (fun c => ?_) (fun c => ?_)
        · have hv := hv.1 c
          exact j_66 _ hK16 _ _ _ _ _ _  hv _ _ _ hE (lv_sub hl [0, 1, 2, 3, 4, 5] rfl)
        · have hv := hv.2 c
          refine lv_aload_n hx hb dX7_adds_46 rfl (lv_at hl 0 rfl) ?_
          refine G_get (v := .ref (a 9)) hC hE (fun _ h => List.mem_cons_of_mem _ (List.mem_append_left _ (List.mem_append_right _ h))) f_model rfl 8 (by decide) (hts (.fieldLink RX7 36 "SeedBattleModel" "index" "[I") (List.mem_of_getElem? (i := 2) rfl)) rfl dX7_adds_47 ?_
          refine lv_iload_n hx hb dX7_adds_50 rfl (lv_at hl 3 rfl) ?_
          refine lv_iload hx hb dX7_adds_51 (lv_at hl 5 rfl) ?_
          refine lv_iadd hx hb dX7_adds_53 ?_
          refine G_iald hC hE f_m_index hv.1 dX7_adds_54 ?_
          have hv := hv.2
          refine G_callSs hC.1 hC.2.2.2.2.1 (c_X7_unitIn l (g.1 9 (Int32.toNatClampNeg (v3 + v5))) _ hv) (va_cwS 1 hts gX7_adds_X7_unitIn rfl rfl rfl (by decide +kernel) ⟨Nat.le_of_ble_eq_true rfl, Nat.le_of_ble_eq_true rfl⟩) rfl hl rfl (Nat.le_of_ble_eq_true rfl) dX7_adds_55 (Nat.zero_le _) (Nat.zero_le _) (fun r3 hv => ?_)
          refine lv_iload_n hx hb dX7_adds_58 rfl (lv_at hl 2 rfl) ?_
          refine G_callSs hC.1 hC.2.2.2.2.1 (c_X7_unitIn l v2 _ hv) (va_cwS 1 hts gX7_adds_X7_unitIn rfl rfl rfl (by decide +kernel) ⟨Nat.le_of_ble_eq_true rfl, Nat.le_of_ble_eq_true rfl⟩) rfl hl rfl (Nat.le_of_ble_eq_true rfl) dX7_adds_59 (Nat.zero_le _) (Nat.zero_le _) (fun r4 hv => ?_)
          refine lv_icmp_ne (tgt := 66) hx hb dX7_adds_62 (by decide) (fun c => ?_) (fun c => ?_)
          · have hv := hv.1 c
            exact j_66 _ hK16 _ _ _ _ _ _  hv _ _ _ hE (lv_sub hl [0, 1, 2, 3, 4, 5] rfl)
          · have hv := hv.2 c
            exact G_vret hC hr hk hE hv dX7_adds_65
  refine lv_bipush (v := 61) hx hb dX7_adds_0 (by decide) ?_
  refine lv_iload_n hx hb dX7_adds_2 rfl (lv_at hl 1 rfl) ?_
  refine lv_imul hx hb dX7_adds_3 ?_
  refine lv_istore_n (lv' := [(3, .int (61 * x1)), (0, .ref (a 0)), (1, .int x1), (2, .int x2)]) hx hb dX7_adds_4 rfl hl (by decide) rfl (fun ls hl => ?_)
  refine lv_aload_n hx hb dX7_adds_5 rfl (lv_at hl 1 rfl) ?_
  refine G_get (v := .ref (a 10)) hC hE (fun _ h => List.mem_cons_of_mem _ (List.mem_append_left _ (List.mem_append_right _ h))) f_model rfl 9 (by decide) (hts (.fieldLink RX7 39 "SeedBattleModel" "size" "[I") (List.mem_of_getElem? (i := 1) rfl)) rfl dX7_adds_6 ?_
  refine lv_iload_n hx hb dX7_adds_9 rfl (lv_at hl 2 rfl) ?_
  refine G_iald hC hE f_m_size hv.1 dX7_adds_10 ?_
  have hv := hv.2
  refine lv_istore (lv' := [(4, .int (g.1 10 (Int32.toNatClampNeg x1))), (3, .int (61 * x1)), (0, .ref (a 0)), (1, .int x1), (2, .int x2)]) hx hb dX7_adds_11 hl (by decide) rfl (fun ls hl => ?_)
  refine lv_iconst (v := 0) hx hb dX7_adds_13 (by decide) ?_
  refine lv_istore (lv' := [(5, .int 0), (4, .int (g.1 10 (Int32.toNatClampNeg x1))), (3, .int (61 * x1)), (0, .ref (a 0)), (1, .int x1), (2, .int x2)]) hx hb dX7_adds_14 hl (by decide) rfl (fun ls hl => ?_)
  exact j_16  _ _ _ _ _ _  hv _ _ _ hE (lv_sub hl [3, 4, 5, 2, 1, 0] rfl)
def J_X7_sights_128  (post : St → Prop) (K50 : (Int32 × St) → Prop) (K57 : (Int32 × Int32 × St) → Prop) (v1 : Int32) (v2 : Int32) (g : St) : Prop := K57 (v1, (v2 + 1), g)
def J_X7_sights_122  (post : St → Prop) (K50 : (Int32 × St) → Prop) (K57 : (Int32 × Int32 × St) → Prop) (K85 : (Int32 × Int32 × Int32 × St) → Prop) (v1 : Int32) (v2 : Int32) (v3 : Int32) (g : St) : Prop := K85 (v1, v2, (v3 + 1), g)
def J_X7_sights_85  (post : St → Prop) (K50 : (Int32 × St) → Prop) (K57 : (Int32 × Int32 × St) → Prop) (K85 : (Int32 × Int32 × Int32 × St) → Prop) (v1 : Int32) (v2 : Int32) (v3 : Int32) (g : St) : Prop := (((g.2 2) ≤ v3 → J_X7_sights_128 post K50 K57 v1 v2 g) ∧ (¬ (g.2 2) ≤ v3 → vp_in v3 24 ∧ ((((g.1 1 (Int32.toNatClampNeg v3)) = v1 → J_X7_sights_122 post K50 K57 K85 v1 v2 v3 g) ∧ (¬ (g.1 1 (Int32.toNatClampNeg v3)) = v1 → V_X7_isSighted v2 v3 g (fun r7 g6 => ((r7 = 0 → J_X7_sights_122 post K50 K57 K85 v1 v2 v3 g6) ∧ (¬ r7 = 0 → V_X7_numberOf v3 g6 (fun r9 g8 => V_X7_adds v1 r9 g8 (fun g10 => J_X7_sights_122 post K50 K57 K85 v1 v2 v3 g10))))))))))
def J_X7_sights_57  (post : St → Prop) (K50 : (Int32 × St) → Prop) (K57 : (Int32 × Int32 × St) → Prop) (v1 : Int32) (v2 : Int32) (g : St) : Prop := ((4 ≤ v2 → K50 ((v1 + 1), g)) ∧ (¬ 4 ≤ v2 → ((v2 = v1 → J_X7_sights_128 post K50 K57 v1 v2 g) ∧ (¬ v2 = v1 → vp_in ((4 * v1) + v2) 16 ∧ (((¬ (g.1 8 (Int32.toNatClampNeg ((4 * v1) + v2))) = 0 → lpP (fun K85 (z : Int32 × Int32 × Int32 × St) => J_X7_sights_85 post K50 K57 K85 z.1 z.2.1 z.2.2.1 z.2.2.2) (v1, v2, 0, g)) ∧ ((g.1 8 (Int32.toNatClampNeg ((4 * v1) + v2))) = 0 → J_X7_sights_128 post K50 K57 v1 v2 g)))))))
def J_X7_sights_50  (post : St → Prop) (K50 : (Int32 × St) → Prop) (v1 : Int32) (g : St) : Prop := ((4 ≤ v1 → post g) ∧ (¬ 4 ≤ v1 → lpP (fun K57 (z : Int32 × Int32 × St) => J_X7_sights_57 post K50 K57 z.1 z.2.1 z.2.2) (v1, 0, g)))
def J_X7_sights_36  (post : St → Prop) (K2 : (Int32 × St) → Prop) (K9 : (Int32 × Int32 × St) → Prop) (v1 : Int32) (v2 : Int32) (g : St) : Prop := K9 (v1, (v2 + 1), g)
def J_X7_sights_9  (post : St → Prop) (K2 : (Int32 × St) → Prop) (K9 : (Int32 × Int32 × St) → Prop) (v1 : Int32) (v2 : Int32) (g : St) : Prop := (((g.2 2) ≤ v2 → K2 ((v1 + 1), g)) ∧ (¬ (g.2 2) ≤ v2 → V_X7_isSighted v1 v2 g (fun r2 g1 => ((r2 = 0 → J_X7_sights_36 post K2 K9 v1 v2 g1) ∧ (¬ r2 = 0 → V_X7_numberOf v2 g1 (fun r4 g3 => V_X7_adds v1 r4 g3 (fun g5 => J_X7_sights_36 post K2 K9 v1 v2 g5)))))))
def J_X7_sights_2  (post : St → Prop) (K2 : (Int32 × St) → Prop) (v1 : Int32) (g : St) : Prop := ((4 ≤ v1 → lpP (fun K50 (z : Int32 × St) => J_X7_sights_50 post K50 z.1 z.2) (0, g)) ∧ (¬ 4 ≤ v1 → lpP (fun K9 (z : Int32 × Int32 × St) => J_X7_sights_9 post K2 K9 z.1 z.2.1 z.2.2) (v1, 0, g)))
def V_X7_sights  (g : St) (post : St → Prop) : Prop := lpP (fun K2 (z : Int32 × St) => J_X7_sights_2 post K2 z.1 z.2) (0, g)
abbrev rm_X7_sights : Room := { frames := 4, cells := 0, slots := 0, locals := 101 }
set_option maxHeartbeats 4000000 in
set_option maxRecDepth 100000 in
theorem c_X7_sights (l : Launch) (D : va_G) (cs az a : Nat → Nat)  (g : St) (post : St → Prop) (hv : V_X7_sights  g post) : uMv l yX7_sights wsX7_sights rm_X7_sights D cs az (mW cs a) [.ref (a 0)] g post := by
  refine u_ofV (cc := cX7_sights) (maxL := 4) (by decide) rfl (Nat.le_of_ble_eq_true rfl) ?_
  intro p e s m args below meth c F ls hC hr hk hl hE
  have hx := hC.1.1; have hb := hC.1.2.1; have hml := hC.1.2.2.1; have hts := hC.1.2.2.2.2
  have hown : s.vm.findClass RX7 = some m.cls := hC.1.2.2.2.1
  have hl : lv_has ls 4 [(0, .ref (a 0))] := hl
  unfold V_X7_sights at hv
  have j_128 : ∀ (K50 : (Int32 × St) → Prop), (∀ (v1 : Int32) (g : St), K50 (v1, g) → ∀ (H : Heap) (locs : List Loc) (ls : Array Slot), uE D 16 mA (mO a) cs a F s g H locs → lv_has ls 4 [(0, .ref (a 0)), (1, .int v1)] → W p l e rm_X7_sights s m args below meth c H locs 0 0 (MQ below (va_Qv post (uB D (uW 16 mA (mO a) cs a)) F) args s 0 0 F) (F0 m 50 ls [])) → ∀ (K57 : (Int32 × Int32 × St) → Prop), (∀ (v1 : Int32) (v2 : Int32) (g : St), K57 (v1, v2, g) → ∀ (H : Heap) (locs : List Loc) (ls : Array Slot), uE D 16 mA (mO a) cs a F s g H locs → lv_has ls 4 [(0, .ref (a 0)), (1, .int v1), (2, .int v2)] → W p l e rm_X7_sights s m args below meth c H locs 0 0 (MQ below (va_Qv post (uB D (uW 16 mA (mO a) cs a)) F) args s 0 0 F) (F0 m 57 ls [])) → ∀ (v1 : Int32) (v2 : Int32) (g : St), J_X7_sights_128 post K50 K57 v1 v2 g → ∀ (H : Heap) (locs : List Loc) (ls : Array Slot), uE D 16 mA (mO a) cs a F s g H locs → lv_has ls 4 [(0, .ref (a 0)), (1, .int v1), (2, .int v2)] → W p l e rm_X7_sights s m args below meth c H locs 0 0 (MQ below (va_Qv post (uB D (uW 16 mA (mO a) cs a)) F) args s 0 0 F) (F0 m 128 ls []) := by
    intro K50 hK50 K57 hK57 v1 v2 g  hv
    intro H locs ls hE hl
    unfold J_X7_sights_128 at hv
    refine lv_iinc (v := (v2 + 1)) (lv' := [(2, .int (v2 + 1)), (0, .ref (a 0)), (1, .int v1)]) hx hb dX7_sights_128 hl (k := 2) rfl rfl (by decide) rfl (fun ls hl => ?_)
    refine lv_goto (tgt := 57) hx hb dX7_sights_131 (by decide) ?_
    exact hK57 _ _ _  hv _ _ _ hE (lv_sub hl [1, 2, 0] rfl)
  have j_122 : ∀ (K50 : (Int32 × St) → Prop), (∀ (v1 : Int32) (g : St), K50 (v1, g) → ∀ (H : Heap) (locs : List Loc) (ls : Array Slot), uE D 16 mA (mO a) cs a F s g H locs → lv_has ls 4 [(0, .ref (a 0)), (1, .int v1)] → W p l e rm_X7_sights s m args below meth c H locs 0 0 (MQ below (va_Qv post (uB D (uW 16 mA (mO a) cs a)) F) args s 0 0 F) (F0 m 50 ls [])) → ∀ (K57 : (Int32 × Int32 × St) → Prop), (∀ (v1 : Int32) (v2 : Int32) (g : St), K57 (v1, v2, g) → ∀ (H : Heap) (locs : List Loc) (ls : Array Slot), uE D 16 mA (mO a) cs a F s g H locs → lv_has ls 4 [(0, .ref (a 0)), (1, .int v1), (2, .int v2)] → W p l e rm_X7_sights s m args below meth c H locs 0 0 (MQ below (va_Qv post (uB D (uW 16 mA (mO a) cs a)) F) args s 0 0 F) (F0 m 57 ls [])) → ∀ (K85 : (Int32 × Int32 × Int32 × St) → Prop), (∀ (v1 : Int32) (v2 : Int32) (v3 : Int32) (g : St), K85 (v1, v2, v3, g) → ∀ (H : Heap) (locs : List Loc) (ls : Array Slot), uE D 16 mA (mO a) cs a F s g H locs → lv_has ls 4 [(0, .ref (a 0)), (1, .int v1), (2, .int v2), (3, .int v3)] → W p l e rm_X7_sights s m args below meth c H locs 0 0 (MQ below (va_Qv post (uB D (uW 16 mA (mO a) cs a)) F) args s 0 0 F) (F0 m 85 ls [])) → ∀ (v1 : Int32) (v2 : Int32) (v3 : Int32) (g : St), J_X7_sights_122 post K50 K57 K85 v1 v2 v3 g → ∀ (H : Heap) (locs : List Loc) (ls : Array Slot), uE D 16 mA (mO a) cs a F s g H locs → lv_has ls 4 [(0, .ref (a 0)), (1, .int v1), (2, .int v2), (3, .int v3)] → W p l e rm_X7_sights s m args below meth c H locs 0 0 (MQ below (va_Qv post (uB D (uW 16 mA (mO a) cs a)) F) args s 0 0 F) (F0 m 122 ls []) := by
    intro K50 hK50 K57 hK57 K85 hK85 v1 v2 v3 g  hv
    intro H locs ls hE hl
    unfold J_X7_sights_122 at hv
    refine lv_iinc (v := (v3 + 1)) (lv' := [(3, .int (v3 + 1)), (0, .ref (a 0)), (1, .int v1), (2, .int v2)]) hx hb dX7_sights_122 hl (k := 3) rfl rfl (by decide) rfl (fun ls hl => ?_)
    refine lv_goto (tgt := 85) hx hb dX7_sights_125 (by decide) ?_
    exact hK85 _ _ _ _  hv _ _ _ hE (lv_sub hl [1, 2, 3, 0] rfl)
  have j_85 : ∀ (K50 : (Int32 × St) → Prop), (∀ (v1 : Int32) (g : St), K50 (v1, g) → ∀ (H : Heap) (locs : List Loc) (ls : Array Slot), uE D 16 mA (mO a) cs a F s g H locs → lv_has ls 4 [(0, .ref (a 0)), (1, .int v1)] → W p l e rm_X7_sights s m args below meth c H locs 0 0 (MQ below (va_Qv post (uB D (uW 16 mA (mO a) cs a)) F) args s 0 0 F) (F0 m 50 ls [])) → ∀ (K57 : (Int32 × Int32 × St) → Prop), (∀ (v1 : Int32) (v2 : Int32) (g : St), K57 (v1, v2, g) → ∀ (H : Heap) (locs : List Loc) (ls : Array Slot), uE D 16 mA (mO a) cs a F s g H locs → lv_has ls 4 [(0, .ref (a 0)), (1, .int v1), (2, .int v2)] → W p l e rm_X7_sights s m args below meth c H locs 0 0 (MQ below (va_Qv post (uB D (uW 16 mA (mO a) cs a)) F) args s 0 0 F) (F0 m 57 ls [])) → ∀ (v1 : Int32) (v2 : Int32) (v3 : Int32) (g : St), lpP (fun K85 (z : Int32 × Int32 × Int32 × St) => J_X7_sights_85 post K50 K57 K85 z.1 z.2.1 z.2.2.1 z.2.2.2) (v1, v2, v3, g) → ∀ (H : Heap) (locs : List Loc) (ls : Array Slot), uE D 16 mA (mO a) cs a F s g H locs → lv_has ls 4 [(0, .ref (a 0)), (1, .int v1), (2, .int v2), (3, .int v3)] → W p l e rm_X7_sights s m args below meth c H locs 0 0 (MQ below (va_Qv post (uB D (uW 16 mA (mO a) cs a)) F) args s 0 0 F) (F0 m 85 ls []) := by
    intro K50 hK50 K57 hK57 v1 v2 v3 g  hv
    obtain ⟨nn, hv⟩ := hv
    induction nn generalizing v1 v2 v3 g with
    | zero => exact False.elim hv
    | succ nn hK85 =>
      intro H locs ls hE hl
      have hv : J_X7_sights_85 post K50 K57 (itP _ nn) v1 v2 v3 g := hv
      unfold J_X7_sights_85 at hv
      refine lv_iload_n hx hb dX7_sights_85 rfl (lv_at hl 3 rfl) ?_
      refine lv_aload_n hx hb dX7_sights_86 rfl (lv_at hl 0 rfl) ?_
      refine G_get (v := .int (g.2 2)) hC hE (fun _ h => List.mem_cons_of_mem _ (List.mem_append_left _ (List.mem_append_left _ (List.mem_append_right _ h)))) f_model rfl 17 (by decide) (hts (.fieldLink RX7 65 "SeedBattleModel" "units" "I") (List.mem_of_getElem? (i := 1) rfl)) rfl dX7_sights_87 ?_
      refine lv_icmp_ge (tgt := 128) hx hb dX7_sights_90 (by decide) (fun c => ?_) (fun c => ?_)
      · have hv := hv.1 c
        exact j_128 _ hK50 _ hK57 _ _ _  hv _ _ _ hE (lv_sub hl [0, 1, 2] rfl)
      · have hv := hv.2 c
        refine lv_aload_n hx hb dX7_sights_93 rfl (lv_at hl 0 rfl) ?_
        refine G_get (v := .ref (a 1)) hC hE (fun _ h => List.mem_cons_of_mem _ (List.mem_append_left _ (List.mem_append_left _ (List.mem_append_right _ h)))) f_model rfl 0 (by decide) (hts (.fieldLink RX7 7 "SeedBattleModel" "player" "[I") (List.mem_of_getElem? (i := 3) rfl)) rfl dX7_sights_94 ?_
        refine lv_iload_n hx hb dX7_sights_97 rfl (lv_at hl 3 rfl) ?_
        refine G_iald hC hE f_m_player hv.1 dX7_sights_98 ?_
        have hv := hv.2
        refine lv_iload_n hx hb dX7_sights_99 rfl (lv_at hl 1 rfl) ?_
        refine lv_icmp_eq (tgt := 122) hx hb dX7_sights_100 (by decide) (fun c => ?_) (fun c => ?_)
        · have hv := hv.1 c
          exact j_122 _ hK50 _ hK57 _ hK85 _ _ _ _  hv _ _ _ hE (lv_sub hl [0, 1, 2, 3] rfl)
        · have hv := hv.2 c
          refine lv_aload_n hx hb dX7_sights_103 rfl (lv_at hl 0 rfl) ?_
          refine lv_iload_n hx hb dX7_sights_104 rfl (lv_at hl 2 rfl) ?_
          refine lv_iload_n hx hb dX7_sights_105 rfl (lv_at hl 3 rfl) ?_
          refine G_callVi hC (c_X7_isSighted l D cs az a v2 v3 g _ hv) (cwV 2 hts gX7_sights_X7_isSighted rfl rfl rfl (by decide +kernel) ⟨Nat.le_of_ble_eq_true rfl, Nat.le_of_ble_eq_true rfl⟩) f_model rfl rfl hl rfl (Nat.le_of_ble_eq_true rfl) dX7_sights_106 hE (fun r7 g6 H locs hv hE => ?_)
          refine lv_if_eq (tgt := 122) hx hb dX7_sights_109 (by decide) (fun c => ?_) (fun c => ?_)
          · have hv := hv.1 c
            exact j_122 _ hK50 _ hK57 _ hK85 _ _ _ _  hv _ _ _ hE (lv_sub hl [0, 1, 2, 3] rfl)
          · have hv := hv.2 c
            refine lv_aload_n hx hb dX7_sights_112 rfl (lv_at hl 0 rfl) ?_
            refine lv_iload_n hx hb dX7_sights_113 rfl (lv_at hl 1 rfl) ?_
            refine lv_aload_n hx hb dX7_sights_114 rfl (lv_at hl 0 rfl) ?_
            refine lv_iload_n hx hb dX7_sights_115 rfl (lv_at hl 3 rfl) ?_
            refine G_callVi hC (c_X7_numberOf l D cs az a v3 g6 _ hv) (cwV 1 hts gX7_sights_X7_numberOf rfl rfl rfl (by decide +kernel) ⟨Nat.le_of_ble_eq_true rfl, Nat.le_of_ble_eq_true rfl⟩) f_model rfl rfl hl rfl (Nat.le_of_ble_eq_true rfl) dX7_sights_116 hE (fun r9 g8 H locs hv hE => ?_)
            refine G_callVv hC (c_X7_adds l D cs az a v1 r9 g8 _ hv) (cwV 2 hts gX7_sights_X7_adds rfl rfl rfl (by decide +kernel) ⟨Nat.le_of_ble_eq_true rfl, Nat.le_of_ble_eq_true rfl⟩) f_model rfl rfl hl rfl (Nat.le_of_ble_eq_true rfl) dX7_sights_119 hE (fun g10 H locs hv hE => ?_)
            exact j_122 _ hK50 _ hK57 _ hK85 _ _ _ _  hv _ _ _ hE (lv_sub hl [0, 1, 2, 3] rfl)
  have j_57 : ∀ (K50 : (Int32 × St) → Prop), (∀ (v1 : Int32) (g : St), K50 (v1, g) → ∀ (H : Heap) (locs : List Loc) (ls : Array Slot), uE D 16 mA (mO a) cs a F s g H locs → lv_has ls 4 [(0, .ref (a 0)), (1, .int v1)] → W p l e rm_X7_sights s m args below meth c H locs 0 0 (MQ below (va_Qv post (uB D (uW 16 mA (mO a) cs a)) F) args s 0 0 F) (F0 m 50 ls [])) → ∀ (v1 : Int32) (v2 : Int32) (g : St), lpP (fun K57 (z : Int32 × Int32 × St) => J_X7_sights_57 post K50 K57 z.1 z.2.1 z.2.2) (v1, v2, g) → ∀ (H : Heap) (locs : List Loc) (ls : Array Slot), uE D 16 mA (mO a) cs a F s g H locs → lv_has ls 4 [(0, .ref (a 0)), (1, .int v1), (2, .int v2)] → W p l e rm_X7_sights s m args below meth c H locs 0 0 (MQ below (va_Qv post (uB D (uW 16 mA (mO a) cs a)) F) args s 0 0 F) (F0 m 57 ls []) := by
    intro K50 hK50 v1 v2 g  hv
    obtain ⟨nn, hv⟩ := hv
    induction nn generalizing v1 v2 g with
    | zero => exact False.elim hv
    | succ nn hK57 =>
      intro H locs ls hE hl
      have hv : J_X7_sights_57 post K50 (itP _ nn) v1 v2 g := hv
      unfold J_X7_sights_57 at hv
      refine lv_iload_n hx hb dX7_sights_57 rfl (lv_at hl 2 rfl) ?_
      refine lv_iconst (v := 4) hx hb dX7_sights_58 (by decide) ?_
      refine lv_icmp_ge (tgt := 134) hx hb dX7_sights_59 (by decide) (fun c => ?_) (fun c => ?_)
      · have hv := hv.1 c
        refine lv_iinc (v := (v1 + 1)) (lv' := [(1, .int (v1 + 1)), (0, .ref (a 0)), (2, .int v2)]) hx hb dX7_sights_134 hl (k := 1) rfl rfl (by decide) rfl (fun ls hl => ?_)
        refine lv_goto (tgt := 50) hx hb dX7_sights_137 (by decide) ?_
        exact hK50 _ _  hv _ _ _ hE (lv_sub hl [1, 0] rfl)
      · have hv := hv.2 c
        refine lv_iload_n hx hb dX7_sights_62 rfl (lv_at hl 2 rfl) ?_
        refine lv_iload_n hx hb dX7_sights_63 rfl (lv_at hl 1 rfl) ?_
        refine lv_icmp_eq (tgt := 128) hx hb dX7_sights_64 (by decide) (fun c => ?_) (fun c => ?_)
        · have hv := hv.1 c
          exact j_128 _ hK50 _ hK57 _ _ _  hv _ _ _ hE (lv_sub hl [0, 1, 2] rfl)
        · have hv := hv.2 c
          refine lv_aload_n hx hb dX7_sights_67 rfl (lv_at hl 0 rfl) ?_
          refine G_get (v := .ref (a 8)) hC hE (fun _ h => List.mem_cons_of_mem _ (List.mem_append_left _ (List.mem_append_left _ (List.mem_append_right _ h)))) f_model rfl 7 (by decide) (hts (.fieldLink RX7 32 "SeedBattleModel" "treaty" "[Z") (List.mem_of_getElem? (i := 2) rfl)) rfl dX7_sights_68 ?_
          refine lv_iconst (v := 4) hx hb dX7_sights_71 (by decide) ?_
          refine lv_iload_n hx hb dX7_sights_72 rfl (lv_at hl 1 rfl) ?_
          refine lv_imul hx hb dX7_sights_73 ?_
          refine lv_iload_n hx hb dX7_sights_74 rfl (lv_at hl 2 rfl) ?_
          refine lv_iadd hx hb dX7_sights_75 ?_
          refine G_zald hC hE f_m_treaty hv.1 dX7_sights_76 ?_
          have hv := hv.2
          refine lv_if_ne (tgt := 83) hx hb dX7_sights_77 (by decide) (fun c => ?_) (fun c => ?_)
          · have hv := hv.1 c
            refine lv_iconst (v := 0) hx hb dX7_sights_83 (by decide) ?_
            refine lv_istore_n (lv' := [(3, .int 0), (0, .ref (a 0)), (1, .int v1), (2, .int v2)]) hx hb dX7_sights_84 rfl hl (by decide) rfl (fun ls hl => ?_)
            exact j_85 _ hK50 _ hK57 _ _ _ _  hv _ _ _ hE (lv_sub hl [1, 2, 3, 0] rfl)
          · have hv := hv.2 c
            refine lv_goto (tgt := 128) hx hb dX7_sights_80 (by decide) ?_
            exact j_128 _ hK50 _ hK57 _ _ _  hv _ _ _ hE (lv_sub hl [0, 1, 2] rfl)
  have j_50 : ∀ (v1 : Int32) (g : St), lpP (fun K50 (z : Int32 × St) => J_X7_sights_50 post K50 z.1 z.2) (v1, g) → ∀ (H : Heap) (locs : List Loc) (ls : Array Slot), uE D 16 mA (mO a) cs a F s g H locs → lv_has ls 4 [(0, .ref (a 0)), (1, .int v1)] → W p l e rm_X7_sights s m args below meth c H locs 0 0 (MQ below (va_Qv post (uB D (uW 16 mA (mO a) cs a)) F) args s 0 0 F) (F0 m 50 ls []) := by
    intro  v1 g  hv
    obtain ⟨nn, hv⟩ := hv
    induction nn generalizing v1 g with
    | zero => exact False.elim hv
    | succ nn hK50 =>
      intro H locs ls hE hl
      have hv : J_X7_sights_50 post (itP _ nn) v1 g := hv
      unfold J_X7_sights_50 at hv
      refine lv_iload_n hx hb dX7_sights_50 rfl (lv_at hl 1 rfl) ?_
      refine lv_iconst (v := 4) hx hb dX7_sights_51 (by decide) ?_
      refine lv_icmp_ge (tgt := 140) hx hb dX7_sights_52 (by decide) (fun c => ?_) (fun c => ?_)
      · have hv := hv.1 c
        exact G_vret hC hr hk hE hv dX7_sights_140
      · have hv := hv.2 c
        refine lv_iconst (v := 0) hx hb dX7_sights_55 (by decide) ?_
        refine lv_istore_n (lv' := [(2, .int 0), (0, .ref (a 0)), (1, .int v1)]) hx hb dX7_sights_56 rfl hl (by decide) rfl (fun ls hl => ?_)
        exact j_57 _ hK50 _ _ _  hv _ _ _ hE (lv_sub hl [1, 2, 0] rfl)
  have j_36 : ∀ (K2 : (Int32 × St) → Prop), (∀ (v1 : Int32) (g : St), K2 (v1, g) → ∀ (H : Heap) (locs : List Loc) (ls : Array Slot), uE D 16 mA (mO a) cs a F s g H locs → lv_has ls 4 [(0, .ref (a 0)), (1, .int v1)] → W p l e rm_X7_sights s m args below meth c H locs 0 0 (MQ below (va_Qv post (uB D (uW 16 mA (mO a) cs a)) F) args s 0 0 F) (F0 m 2 ls [])) → ∀ (K9 : (Int32 × Int32 × St) → Prop), (∀ (v1 : Int32) (v2 : Int32) (g : St), K9 (v1, v2, g) → ∀ (H : Heap) (locs : List Loc) (ls : Array Slot), uE D 16 mA (mO a) cs a F s g H locs → lv_has ls 4 [(0, .ref (a 0)), (1, .int v1), (2, .int v2)] → W p l e rm_X7_sights s m args below meth c H locs 0 0 (MQ below (va_Qv post (uB D (uW 16 mA (mO a) cs a)) F) args s 0 0 F) (F0 m 9 ls [])) → ∀ (v1 : Int32) (v2 : Int32) (g : St), J_X7_sights_36 post K2 K9 v1 v2 g → ∀ (H : Heap) (locs : List Loc) (ls : Array Slot), uE D 16 mA (mO a) cs a F s g H locs → lv_has ls 4 [(0, .ref (a 0)), (1, .int v1), (2, .int v2)] → W p l e rm_X7_sights s m args below meth c H locs 0 0 (MQ below (va_Qv post (uB D (uW 16 mA (mO a) cs a)) F) args s 0 0 F) (F0 m 36 ls []) := by
    intro K2 hK2 K9 hK9 v1 v2 g  hv
    intro H locs ls hE hl
    unfold J_X7_sights_36 at hv
    refine lv_iinc (v := (v2 + 1)) (lv' := [(2, .int (v2 + 1)), (0, .ref (a 0)), (1, .int v1)]) hx hb dX7_sights_36 hl (k := 2) rfl rfl (by decide) rfl (fun ls hl => ?_)
    refine lv_goto (tgt := 9) hx hb dX7_sights_39 (by decide) ?_
    exact hK9 _ _ _  hv _ _ _ hE (lv_sub hl [1, 2, 0] rfl)
  have j_9 : ∀ (K2 : (Int32 × St) → Prop), (∀ (v1 : Int32) (g : St), K2 (v1, g) → ∀ (H : Heap) (locs : List Loc) (ls : Array Slot), uE D 16 mA (mO a) cs a F s g H locs → lv_has ls 4 [(0, .ref (a 0)), (1, .int v1)] → W p l e rm_X7_sights s m args below meth c H locs 0 0 (MQ below (va_Qv post (uB D (uW 16 mA (mO a) cs a)) F) args s 0 0 F) (F0 m 2 ls [])) → ∀ (v1 : Int32) (v2 : Int32) (g : St), lpP (fun K9 (z : Int32 × Int32 × St) => J_X7_sights_9 post K2 K9 z.1 z.2.1 z.2.2) (v1, v2, g) → ∀ (H : Heap) (locs : List Loc) (ls : Array Slot), uE D 16 mA (mO a) cs a F s g H locs → lv_has ls 4 [(0, .ref (a 0)), (1, .int v1), (2, .int v2)] → W p l e rm_X7_sights s m args below meth c H locs 0 0 (MQ below (va_Qv post (uB D (uW 16 mA (mO a) cs a)) F) args s 0 0 F) (F0 m 9 ls []) := by
    intro K2 hK2 v1 v2 g  hv
    obtain ⟨nn, hv⟩ := hv
    induction nn generalizing v1 v2 g with
    | zero => exact False.elim hv
    | succ nn hK9 =>
      intro H locs ls hE hl
      have hv : J_X7_sights_9 post K2 (itP _ nn) v1 v2 g := hv
      unfold J_X7_sights_9 at hv
      refine lv_iload_n hx hb dX7_sights_9 rfl (lv_at hl 2 rfl) ?_
      refine lv_aload_n hx hb dX7_sights_10 rfl (lv_at hl 0 rfl) ?_
      refine G_get (v := .int (g.2 2)) hC hE (fun _ h => List.mem_cons_of_mem _ (List.mem_append_left _ (List.mem_append_left _ (List.mem_append_right _ h)))) f_model rfl 17 (by decide) (hts (.fieldLink RX7 65 "SeedBattleModel" "units" "I") (List.mem_of_getElem? (i := 1) rfl)) rfl dX7_sights_11 ?_
      refine lv_icmp_ge (tgt := 42) hx hb dX7_sights_14 (by decide) (fun c => ?_) (fun c => ?_)
      · have hv := hv.1 c
        refine lv_iinc (v := (v1 + 1)) (lv' := [(1, .int (v1 + 1)), (0, .ref (a 0)), (2, .int v2)]) hx hb dX7_sights_42 hl (k := 1) rfl rfl (by decide) rfl (fun ls hl => ?_)
        refine lv_goto (tgt := 2) hx hb dX7_sights_45 (by decide) ?_
        exact hK2 _ _  hv _ _ _ hE (lv_sub hl [1, 0] rfl)
      · have hv := hv.2 c
        refine lv_aload_n hx hb dX7_sights_17 rfl (lv_at hl 0 rfl) ?_
        refine lv_iload_n hx hb dX7_sights_18 rfl (lv_at hl 1 rfl) ?_
        refine lv_iload_n hx hb dX7_sights_19 rfl (lv_at hl 2 rfl) ?_
        refine G_callVi hC (c_X7_isSighted l D cs az a v1 v2 g _ hv) (cwV 2 hts gX7_sights_X7_isSighted rfl rfl rfl (by decide +kernel) ⟨Nat.le_of_ble_eq_true rfl, Nat.le_of_ble_eq_true rfl⟩) f_model rfl rfl hl rfl (Nat.le_of_ble_eq_true rfl) dX7_sights_20 hE (fun r2 g1 H locs hv hE => ?_)
        refine lv_if_eq (tgt := 36) hx hb dX7_sights_23 (by decide) (fun c => ?_) (fun c => ?_)
        · have hv := hv.1 c
          exact j_36 _ hK2 _ hK9 _ _ _  hv _ _ _ hE (lv_sub hl [0, 1, 2] rfl)
        · have hv := hv.2 c
          refine lv_aload_n hx hb dX7_sights_26 rfl (lv_at hl 0 rfl) ?_
          refine lv_iload_n hx hb dX7_sights_27 rfl (lv_at hl 1 rfl) ?_
          refine lv_aload_n hx hb dX7_sights_28 rfl (lv_at hl 0 rfl) ?_
          refine lv_iload_n hx hb dX7_sights_29 rfl (lv_at hl 2 rfl) ?_
          refine G_callVi hC (c_X7_numberOf l D cs az a v2 g1 _ hv) (cwV 1 hts gX7_sights_X7_numberOf rfl rfl rfl (by decide +kernel) ⟨Nat.le_of_ble_eq_true rfl, Nat.le_of_ble_eq_true rfl⟩) f_model rfl rfl hl rfl (Nat.le_of_ble_eq_true rfl) dX7_sights_30 hE (fun r4 g3 H locs hv hE => ?_)
          refine G_callVv hC (c_X7_adds l D cs az a v1 r4 g3 _ hv) (cwV 2 hts gX7_sights_X7_adds rfl rfl rfl (by decide +kernel) ⟨Nat.le_of_ble_eq_true rfl, Nat.le_of_ble_eq_true rfl⟩) f_model rfl rfl hl rfl (Nat.le_of_ble_eq_true rfl) dX7_sights_33 hE (fun g5 H locs hv hE => ?_)
          exact j_36 _ hK2 _ hK9 _ _ _  hv _ _ _ hE (lv_sub hl [0, 1, 2] rfl)
  have j_2 : ∀ (v1 : Int32) (g : St), lpP (fun K2 (z : Int32 × St) => J_X7_sights_2 post K2 z.1 z.2) (v1, g) → ∀ (H : Heap) (locs : List Loc) (ls : Array Slot), uE D 16 mA (mO a) cs a F s g H locs → lv_has ls 4 [(0, .ref (a 0)), (1, .int v1)] → W p l e rm_X7_sights s m args below meth c H locs 0 0 (MQ below (va_Qv post (uB D (uW 16 mA (mO a) cs a)) F) args s 0 0 F) (F0 m 2 ls []) := by
    intro  v1 g  hv
    obtain ⟨nn, hv⟩ := hv
    induction nn generalizing v1 g with
    | zero => exact False.elim hv
    | succ nn hK2 =>
      intro H locs ls hE hl
      have hv : J_X7_sights_2 post (itP _ nn) v1 g := hv
      unfold J_X7_sights_2 at hv
      refine lv_iload_n hx hb dX7_sights_2 rfl (lv_at hl 1 rfl) ?_
      refine lv_iconst (v := 4) hx hb dX7_sights_3 (by decide) ?_
      refine lv_icmp_ge (tgt := 48) hx hb dX7_sights_4 (by decide) (fun c => ?_) (fun c => ?_)
      · have hv := hv.1 c
        refine lv_iconst (v := 0) hx hb dX7_sights_48 (by decide) ?_
        refine lv_istore_n (lv' := [(1, .int 0), (0, .ref (a 0))]) hx hb dX7_sights_49 rfl hl (by decide) rfl (fun ls hl => ?_)
        exact j_50  _ _  hv _ _ _ hE (lv_sub hl [1, 0] rfl)
      · have hv := hv.2 c
        refine lv_iconst (v := 0) hx hb dX7_sights_7 (by decide) ?_
        refine lv_istore_n (lv' := [(2, .int 0), (0, .ref (a 0)), (1, .int v1)]) hx hb dX7_sights_8 rfl hl (by decide) rfl (fun ls hl => ?_)
        exact j_9 _ hK2 _ _ _  hv _ _ _ hE (lv_sub hl [1, 2, 0] rfl)
  refine lv_iconst (v := 0) hx hb dX7_sights_0 (by decide) ?_
  refine lv_istore_n (lv' := [(1, .int 0), (0, .ref (a 0))]) hx hb dX7_sights_1 rfl hl (by decide) rfl (fun ls hl => ?_)
  exact j_2  _ _  hv _ _ _ hE (lv_sub hl [1, 0] rfl)
def J_X7_turn_51  (post : Int32 → St → Prop) (K51 : (Int32 × Int32 × St) → Prop) (v1 : Int32) (v2 : Int32) (g : St) : Prop := (((g.2 2) ≤ v2 → V_X7_sights g (fun g7 => V_X7_living g7 (fun r9 g8 => post (v1 - r9) g8))) ∧ (¬ (g.2 2) ≤ v2 → vp_in v2 24 ∧ (K51 (v1, (v2 + 1), (sA g 4 (upd (g.1 4) (Int32.toNatClampNeg v2) 0))))))
def J_X7_turn_15  (post : Int32 → St → Prop)  (t0 : Int32) (g : St) : Prop := V_X7_no t0 1 g (fun r2 g1 => ((r2 = 0 → V_X7_living g1 (fun r4 g3 => V_X7_step 0 g3 (fun g5 => V_X7_step 1 g5 (fun g6 => lpP (fun K51 (z : Int32 × Int32 × St) => J_X7_turn_51 post K51 z.1 z.2.1 z.2.2) (r4, 0, (sS g6 3 ((g6.2 3) + 1))))))) ∧ (¬ r2 = 0 → post 0 g1)))
def V_X7_turn  (g : St) (post : Int32 → St → Prop) : Prop := ((99 ≤ (g.2 3) → J_X7_turn_15 post 0 g) ∧ (¬ 99 ≤ (g.2 3) → J_X7_turn_15 post 1 g))
abbrev rm_X7_turn : Room := { frames := 5, cells := 0, slots := 0, locals := 124 }
set_option maxHeartbeats 4000000 in
set_option maxRecDepth 100000 in
theorem c_X7_turn (l : Launch) (D : va_G) (cs az a : Nat → Nat)  (g : St) (post : Int32 → St → Prop) (hv : V_X7_turn  g post) : uMi l yX7_turn wsX7_turn rm_X7_turn D cs az (mW cs a) [.ref (a 0)] g post := by
  refine u_ofI (cc := cX7_turn) (maxL := 3) (by decide) rfl (Nat.le_of_ble_eq_true rfl) ?_
  intro p e s m args below meth c F ls hC hr hk hl hE
  have hx := hC.1.1; have hb := hC.1.2.1; have hml := hC.1.2.2.1; have hts := hC.1.2.2.2.2
  have hown : s.vm.findClass RX7 = some m.cls := hC.1.2.2.2.1
  have hl : lv_has ls 3 [(0, .ref (a 0))] := hl
  unfold V_X7_turn at hv
  have j_51 : ∀ (v1 : Int32) (v2 : Int32) (g : St), lpP (fun K51 (z : Int32 × Int32 × St) => J_X7_turn_51 post K51 z.1 z.2.1 z.2.2) (v1, v2, g) → ∀ (H : Heap) (locs : List Loc) (ls : Array Slot), uE D 16 mA (mO a) cs a F s g H locs → lv_has ls 3 [(0, .ref (a 0)), (1, .int v1), (2, .int v2)] → W p l e rm_X7_turn s m args below meth c H locs 0 0 (MQ below (va_Qi post (uB D (uW 16 mA (mO a) cs a)) F) args s 0 0 F) (F0 m 51 ls []) := by
    intro  v1 v2 g  hv
    obtain ⟨nn, hv⟩ := hv
    induction nn generalizing v1 v2 g with
    | zero => exact False.elim hv
    | succ nn hK51 =>
      intro H locs ls hE hl
      have hv : J_X7_turn_51 post (itP _ nn) v1 v2 g := hv
      unfold J_X7_turn_51 at hv
      refine lv_iload_n hx hb dX7_turn_51 rfl (lv_at hl 2 rfl) ?_
      refine lv_aload_n hx hb dX7_turn_52 rfl (lv_at hl 0 rfl) ?_
      refine G_get (v := .int (g.2 2)) hC hE (fun _ h => List.mem_cons_of_mem _ (List.mem_append_left _ (List.mem_append_left _ (List.mem_append_right _ h)))) f_model rfl 17 (by decide) (hts (.fieldLink RX7 65 "SeedBattleModel" "units" "I") (List.mem_of_getElem? (i := 2) rfl)) rfl dX7_turn_53 ?_
      refine lv_icmp_ge (tgt := 72) hx hb dX7_turn_56 (by decide) (fun c => ?_) (fun c => ?_)
      · have hv := hv.1 c
        refine lv_aload_n hx hb dX7_turn_72 rfl (lv_at hl 0 rfl) ?_
        refine G_callVv hC (c_X7_sights l D cs az a  g _ hv) (cwV 0 hts gX7_turn_X7_sights rfl rfl rfl (by decide +kernel) ⟨Nat.le_of_ble_eq_true rfl, Nat.le_of_ble_eq_true rfl⟩) f_model rfl rfl hl rfl (Nat.le_of_ble_eq_true rfl) dX7_turn_73 hE (fun g7 H locs hv hE => ?_)
        refine lv_iload_n hx hb dX7_turn_76 rfl (lv_at hl 1 rfl) ?_
        refine lv_aload_n hx hb dX7_turn_77 rfl (lv_at hl 0 rfl) ?_
        refine G_callVi hC (c_X7_living l D cs az a  g7 _ hv) (cwV 0 hts gX7_turn_X7_living rfl rfl rfl (by decide +kernel) ⟨Nat.le_of_ble_eq_true rfl, Nat.le_of_ble_eq_true rfl⟩) f_model rfl rfl hl rfl (Nat.le_of_ble_eq_true rfl) dX7_turn_78 hE (fun r9 g8 H locs hv hE => ?_)
        refine lv_isub hx hb dX7_turn_81 ?_
        exact G_iret hC hr hk hE hv dX7_turn_82
      · have hv := hv.2 c
        refine lv_aload_n hx hb dX7_turn_59 rfl (lv_at hl 0 rfl) ?_
        refine G_get (v := .ref (a 4)) hC hE (fun _ h => List.mem_cons_of_mem _ (List.mem_append_left _ (List.mem_append_left _ (List.mem_append_right _ h)))) f_model rfl 3 (by decide) (hts (.fieldLink RX7 19 "SeedBattleModel" "many" "[I") (List.mem_of_getElem? (i := 3) rfl)) rfl dX7_turn_60 ?_
        refine lv_iload_n hx hb dX7_turn_63 rfl (lv_at hl 2 rfl) ?_
        refine lv_iconst (v := 0) hx hb dX7_turn_64 (by decide) ?_
        refine G_iast hC hE f_m_many hv.1 dX7_turn_65 (fun H locs hE => ?_)
        have hv := hv.2
        refine lv_iinc (v := (v2 + 1)) (lv' := [(2, .int (v2 + 1)), (0, .ref (a 0)), (1, .int v1)]) hx hb dX7_turn_66 hl (k := 2) rfl rfl (by decide) rfl (fun ls hl => ?_)
        refine lv_goto (tgt := 51) hx hb dX7_turn_69 (by decide) ?_
        exact hK51 _ _ _  hv _ _ _ hE (lv_sub hl [1, 2, 0] rfl)
  have j_15 : ∀ (t0 : Int32) (g : St), J_X7_turn_15 post t0 g → ∀ (H : Heap) (locs : List Loc) (ls : Array Slot), uE D 16 mA (mO a) cs a F s g H locs → lv_has ls 3 [(0, .ref (a 0))] → W p l e rm_X7_turn s m args below meth c H locs 0 0 (MQ below (va_Qi post (uB D (uW 16 mA (mO a) cs a)) F) args s 0 0 F) (F0 m 15 ls [.int t0, .ref (a 0)]) := by
    intro  t0 g  hv
    intro H locs ls hE hl
    unfold J_X7_turn_15 at hv
    refine lv_iconst (v := 1) hx hb dX7_turn_15 (by decide) ?_
    refine G_callVi hC (c_X7_no l D cs az a t0 1 g _ hv) (cwV 2 hts gX7_turn_X7_no rfl rfl rfl (by decide +kernel) ⟨Nat.le_of_ble_eq_true rfl, Nat.le_of_ble_eq_true rfl⟩) f_model rfl rfl hl rfl (Nat.le_of_ble_eq_true rfl) dX7_turn_16 hE (fun r2 g1 H locs hv hE => ?_)
    refine lv_if_eq (tgt := 24) hx hb dX7_turn_19 (by decide) (fun c => ?_) (fun c => ?_)
    · have hv := hv.1 c
      refine lv_aload_n hx hb dX7_turn_24 rfl (lv_at hl 0 rfl) ?_
      refine G_callVi hC (c_X7_living l D cs az a  g1 _ hv) (cwV 0 hts gX7_turn_X7_living rfl rfl rfl (by decide +kernel) ⟨Nat.le_of_ble_eq_true rfl, Nat.le_of_ble_eq_true rfl⟩) f_model rfl rfl hl rfl (Nat.le_of_ble_eq_true rfl) dX7_turn_25 hE (fun r4 g3 H locs hv hE => ?_)
      refine lv_istore_n (lv' := [(1, .int r4), (0, .ref (a 0))]) hx hb dX7_turn_28 rfl hl (by decide) rfl (fun ls hl => ?_)
      refine lv_aload_n hx hb dX7_turn_29 rfl (lv_at hl 1 rfl) ?_
      refine lv_iconst (v := 0) hx hb dX7_turn_30 (by decide) ?_
      refine G_callVv hC (c_X7_step l D cs az a 0 g3 _ hv) (cwV 1 hts gX7_turn_X7_step rfl rfl rfl (by decide +kernel) ⟨Nat.le_of_ble_eq_true rfl, Nat.le_of_ble_eq_true rfl⟩) f_model rfl rfl hl rfl (Nat.le_of_ble_eq_true rfl) dX7_turn_31 hE (fun g5 H locs hv hE => ?_)
      refine lv_aload_n hx hb dX7_turn_34 rfl (lv_at hl 1 rfl) ?_
      refine lv_iconst (v := 1) hx hb dX7_turn_35 (by decide) ?_
      refine G_callVv hC (c_X7_step l D cs az a 1 g5 _ hv) (cwV 1 hts gX7_turn_X7_step rfl rfl rfl (by decide +kernel) ⟨Nat.le_of_ble_eq_true rfl, Nat.le_of_ble_eq_true rfl⟩) f_model rfl rfl hl rfl (Nat.le_of_ble_eq_true rfl) dX7_turn_36 hE (fun g6 H locs hv hE => ?_)
      refine lv_aload_n hx hb dX7_turn_39 rfl (lv_at hl 1 rfl) ?_
      refine lv_dup hx hb dX7_turn_40 rfl ?_
      refine G_get (v := .int (g6.2 3)) hC hE (fun _ h => List.mem_cons_of_mem _ (List.mem_append_left _ (List.mem_append_left _ (List.mem_append_right _ h)))) f_model rfl 18 (by decide) (hts (.fieldLink RX7 84 "SeedBattleModel" "done" "I") (List.mem_of_getElem? (i := 1) rfl)) rfl dX7_turn_41 ?_
      refine lv_iconst (v := 1) hx hb dX7_turn_44 (by decide) ?_
      refine lv_iadd hx hb dX7_turn_45 ?_
      refine G_put (v := ((g6.2 3) + 1)) (ty := .int) hC hE (fun _ h => List.mem_cons_of_mem _ (List.mem_append_left _ (List.mem_append_left _ (List.mem_append_right _ h)))) tyX7 tyX7_ok nmX7 f_model rfl 18 3 (by decide) (hts (.fieldLink RX7 84 "SeedBattleModel" "done" "I") (List.mem_of_getElem? (i := 1) rfl)) rfl (by decide +kernel) rfl rfl (Nat.le_of_ble_eq_true rfl) (p_model_done_e) (p_model_done_o) dX7_turn_46 (fun H locs hE => ?_)
      refine lv_iconst (v := 0) hx hb dX7_turn_49 (by decide) ?_
      refine lv_istore_n (lv' := [(2, .int 0), (1, .int r4), (0, .ref (a 0))]) hx hb dX7_turn_50 rfl hl (by decide) rfl (fun ls hl => ?_)
      exact j_51  _ _ _  hv _ _ _ hE (lv_sub hl [2, 1, 0] rfl)
    · have hv := hv.2 c
      refine lv_iconst (v := 0) hx hb dX7_turn_22 (by decide) ?_
      exact G_iret hC hr hk hE hv dX7_turn_23
  refine lv_aload_n hx hb dX7_turn_0 rfl (lv_at hl 0 rfl) ?_
  refine lv_aload_n hx hb dX7_turn_1 rfl (lv_at hl 0 rfl) ?_
  refine G_get (v := .int (g.2 3)) hC hE (fun _ h => List.mem_cons_of_mem _ (List.mem_append_left _ (List.mem_append_left _ (List.mem_append_right _ h)))) f_model rfl 18 (by decide) (hts (.fieldLink RX7 84 "SeedBattleModel" "done" "I") (List.mem_of_getElem? (i := 1) rfl)) rfl dX7_turn_2 ?_
  refine lv_bipush (v := 99) hx hb dX7_turn_5 (by decide) ?_
  refine lv_icmp_ge (tgt := 14) hx hb dX7_turn_7 (by decide) (fun c => ?_) (fun c => ?_)
  · have hv := hv.1 c
    refine lv_iconst (v := 0) hx hb dX7_turn_14 (by decide) ?_
    exact j_15  _ _  hv _ _ _ hE (lv_sub hl [0] rfl)
  · have hv := hv.2 c
    refine lv_iconst (v := 1) hx hb dX7_turn_10 (by decide) ?_
    refine lv_goto (tgt := 15) hx hb dX7_turn_11 (by decide) ?_
    exact j_15  _ _  hv _ _ _ hE (lv_sub hl [0] rfl)
def V_X7_done  (g : St) (post : Int32 → St → Prop) : Prop := post (g.2 3) g
abbrev rm_X7_done : Room := { frames := 0, cells := 0, slots := 0, locals := 0 }
set_option maxHeartbeats 4000000 in
set_option maxRecDepth 100000 in
theorem c_X7_done (l : Launch) (D : va_G) (cs az a : Nat → Nat)  (g : St) (post : Int32 → St → Prop) (hv : V_X7_done  g post) : uMi l yX7_done wsX7_done rm_X7_done D cs az (mW cs a) [.ref (a 0)] g post := by
  refine u_ofI (cc := cX7_done) (maxL := 1) (by decide) rfl (Nat.le_of_ble_eq_true rfl) ?_
  intro p e s m args below meth c F ls hC hr hk hl hE
  have hx := hC.1.1; have hb := hC.1.2.1; have hml := hC.1.2.2.1; have hts := hC.1.2.2.2.2
  have hown : s.vm.findClass RX7 = some m.cls := hC.1.2.2.2.1
  have hl : lv_has ls 1 [(0, .ref (a 0))] := hl
  unfold V_X7_done at hv
  refine lv_aload_n hx hb dX7_done_0 rfl (lv_at hl 0 rfl) ?_
  refine G_get (v := .int (g.2 3)) hC hE (fun _ h => List.mem_cons_of_mem _ (List.mem_append_right _ h)) f_model rfl 18 (by decide) (hts (.fieldLink RX7 84 "SeedBattleModel" "done" "I") (List.mem_of_getElem? (i := 1) rfl)) rfl dX7_done_1 ?_
  exact G_iret hC hr hk hE hv dX7_done_4
def V_X7_cellOf (x1 : Int32) (g : St) (post : Int32 → St → Prop) : Prop := V_X7_noUnit x1 g (fun r2 g1 => ((r2 = 0 → vp_in x1 24 ∧ (post (g1.1 2 (Int32.toNatClampNeg x1)) g1)) ∧ (¬ r2 = 0 → post 0 g1)))
abbrev rm_X7_cellOf : Room := { frames := 2, cells := 0, slots := 0, locals := 43 }
set_option maxHeartbeats 4000000 in
set_option maxRecDepth 100000 in
theorem c_X7_cellOf (l : Launch) (D : va_G) (cs az a : Nat → Nat) (x1 : Int32) (g : St) (post : Int32 → St → Prop) (hv : V_X7_cellOf x1 g post) : uMi l yX7_cellOf wsX7_cellOf rm_X7_cellOf D cs az (mW cs a) [.ref (a 0), .int x1] g post := by
  refine u_ofI (cc := cX7_cellOf) (maxL := 2) (by decide) rfl (Nat.le_of_ble_eq_true rfl) ?_
  intro p e s m args below meth c F ls hC hr hk hl hE
  have hx := hC.1.1; have hb := hC.1.2.1; have hml := hC.1.2.2.1; have hts := hC.1.2.2.2.2
  have hown : s.vm.findClass RX7 = some m.cls := hC.1.2.2.2.1
  have hl : lv_has ls 2 [(0, .ref (a 0)), (1, .int x1)] := hl
  unfold V_X7_cellOf at hv
  refine lv_aload_n hx hb dX7_cellOf_0 rfl (lv_at hl 0 rfl) ?_
  refine lv_iload_n hx hb dX7_cellOf_1 rfl (lv_at hl 1 rfl) ?_
  refine G_callVi hC (c_X7_noUnit l D cs az a x1 g _ hv) (cwV 1 hts gX7_cellOf_X7_noUnit rfl rfl rfl (by decide +kernel) ⟨Nat.le_of_ble_eq_true rfl, Nat.le_of_ble_eq_true rfl⟩) f_model rfl rfl hl rfl (Nat.le_of_ble_eq_true rfl) dX7_cellOf_2 hE (fun r2 g1 H locs hv hE => ?_)
  refine lv_if_eq (tgt := 12) hx hb dX7_cellOf_5 (by decide) (fun c => ?_) (fun c => ?_)
  · have hv := hv.1 c
    refine lv_aload_n hx hb dX7_cellOf_12 rfl (lv_at hl 0 rfl) ?_
    refine G_get (v := .ref (a 2)) hC hE (fun _ h => List.mem_cons_of_mem _ (List.mem_append_left _ (List.mem_append_right _ h))) f_model rfl 1 (by decide) (hts (.fieldLink RX7 13 "SeedBattleModel" "cell" "[I") (List.mem_of_getElem? (i := 1) rfl)) rfl dX7_cellOf_13 ?_
    refine lv_iload_n hx hb dX7_cellOf_16 rfl (lv_at hl 1 rfl) ?_
    refine G_iald hC hE f_m_cell hv.1 dX7_cellOf_17 ?_
    have hv := hv.2
    exact G_iret hC hr hk hE hv dX7_cellOf_18
  · have hv := hv.2 c
    refine lv_iconst (v := 0) hx hb dX7_cellOf_8 (by decide) ?_
    refine lv_goto (tgt := 18) hx hb dX7_cellOf_9 (by decide) ?_
    exact G_iret hC hr hk hE hv dX7_cellOf_18
def V_X7_unitOn (x1 : Int32) (g : St) (post : Int32 → St → Prop) : Prop := V_X7_isCell x1 (fun r1 => V_X7_no r1 1 g (fun r3 g2 => ((r3 = 0 → V_X7_on x1 g2 (fun r5 g4 => post r5 g4)) ∧ (¬ r3 = 0 → post 0 g2))))
abbrev rm_X7_unitOn : Room := { frames := 1, cells := 0, slots := 0, locals := 22 }
set_option maxHeartbeats 4000000 in
set_option maxRecDepth 100000 in
theorem c_X7_unitOn (l : Launch) (D : va_G) (cs az a : Nat → Nat) (x1 : Int32) (g : St) (post : Int32 → St → Prop) (hv : V_X7_unitOn x1 g post) : uMi l yX7_unitOn wsX7_unitOn rm_X7_unitOn D cs az (mW cs a) [.ref (a 0), .int x1] g post := by
  refine u_ofI (cc := cX7_unitOn) (maxL := 2) (by decide) rfl (Nat.le_of_ble_eq_true rfl) ?_
  intro p e s m args below meth c F ls hC hr hk hl hE
  have hx := hC.1.1; have hb := hC.1.2.1; have hml := hC.1.2.2.1; have hts := hC.1.2.2.2.2
  have hown : s.vm.findClass RX7 = some m.cls := hC.1.2.2.2.1
  have hl : lv_has ls 2 [(0, .ref (a 0)), (1, .int x1)] := hl
  unfold V_X7_unitOn at hv
  refine lv_aload_n hx hb dX7_unitOn_0 rfl (lv_at hl 0 rfl) ?_
  refine lv_iload_n hx hb dX7_unitOn_1 rfl (lv_at hl 1 rfl) ?_
  refine G_callSs hC.1 hC.2.2.2.2.1 (c_X7_isCell l x1 _ hv) (va_cwS 1 hts gX7_unitOn_X7_isCell rfl rfl rfl (by decide +kernel) ⟨Nat.le_of_ble_eq_true rfl, Nat.le_of_ble_eq_true rfl⟩) rfl hl rfl (Nat.le_of_ble_eq_true rfl) dX7_unitOn_2 (Nat.zero_le _) (Nat.zero_le _) (fun r1 hv => ?_)
  refine lv_iconst (v := 1) hx hb dX7_unitOn_5 (by decide) ?_
  refine G_callVi hC (c_X7_no l D cs az a r1 1 g _ hv) (cwV 2 hts gX7_unitOn_X7_no rfl rfl rfl (by decide +kernel) ⟨Nat.le_of_ble_eq_true rfl, Nat.le_of_ble_eq_true rfl⟩) f_model rfl rfl hl rfl (Nat.le_of_ble_eq_true rfl) dX7_unitOn_6 hE (fun r3 g2 H locs hv hE => ?_)
  refine lv_if_eq (tgt := 16) hx hb dX7_unitOn_9 (by decide) (fun c => ?_) (fun c => ?_)
  · have hv := hv.1 c
    refine lv_aload_n hx hb dX7_unitOn_16 rfl (lv_at hl 0 rfl) ?_
    refine lv_iload_n hx hb dX7_unitOn_17 rfl (lv_at hl 1 rfl) ?_
    refine G_callVi hC (c_X7_on l D cs az a x1 g2 _ hv) (cwV 1 hts gX7_unitOn_X7_on rfl rfl rfl (by decide +kernel) ⟨Nat.le_of_ble_eq_true rfl, Nat.le_of_ble_eq_true rfl⟩) f_model rfl rfl hl rfl (Nat.le_of_ble_eq_true rfl) dX7_unitOn_18 hE (fun r5 g4 H locs hv hE => ?_)
    exact G_iret hC hr hk hE hv dX7_unitOn_21
  · have hv := hv.2 c
    refine lv_iconst (v := 0) hx hb dX7_unitOn_12 (by decide) ?_
    refine lv_goto (tgt := 21) hx hb dX7_unitOn_13 (by decide) ?_
    exact G_iret hC hr hk hE hv dX7_unitOn_21
def J_X7_sees_25 (x1 : Int32) (x2 : Int32) (post : Int32 → St → Prop)  (v1 : Int32) (v2 : Int32) (t0 : Int32) (g : St) : Prop := V_X7_no t0 1 g (fun r3 g2 => ((¬ r3 = 0 → post 0 g2) ∧ (r3 = 0 → V_X7_looksAt v1 v2 g2 (fun r5 g4 => ((r5 = 0 → post 0 g4) ∧ (¬ r5 = 0 → post 1 g4))))))
def J_X7_sees_24 (x1 : Int32) (x2 : Int32) (post : Int32 → St → Prop)  (v1 : Int32) (v2 : Int32) (g : St) : Prop := J_X7_sees_25 x1 x2 post v1 v2 0 g
def V_X7_sees (x1 : Int32) (x2 : Int32) (g : St) (post : Int32 → St → Prop) : Prop := ((x1 < 0 → J_X7_sees_24 x1 x2 post x1 x2 g) ∧ (¬ x1 < 0 → (((g.2 2) ≤ x1 → J_X7_sees_24 x1 x2 post x1 x2 g) ∧ (¬ (g.2 2) ≤ x1 → V_X7_isCell x2 (fun r1 => ((r1 = 0 → J_X7_sees_24 x1 x2 post x1 x2 g) ∧ (¬ r1 = 0 → J_X7_sees_25 x1 x2 post x1 x2 1 g)))))))
abbrev rm_X7_sees : Room := { frames := 2, cells := 0, slots := 0, locals := 56 }
set_option maxHeartbeats 4000000 in
set_option maxRecDepth 100000 in
theorem c_X7_sees (l : Launch) (D : va_G) (cs az a : Nat → Nat) (x1 : Int32) (x2 : Int32) (g : St) (post : Int32 → St → Prop) (hv : V_X7_sees x1 x2 g post) : uMi l yX7_sees wsX7_sees rm_X7_sees D cs az (mW cs a) [.ref (a 0), .int x1, .int x2] g post := by
  refine u_ofI (cc := cX7_sees) (maxL := 3) (by decide) rfl (Nat.le_of_ble_eq_true rfl) ?_
  intro p e s m args below meth c F ls hC hr hk hl hE
  have hx := hC.1.1; have hb := hC.1.2.1; have hml := hC.1.2.2.1; have hts := hC.1.2.2.2.2
  have hown : s.vm.findClass RX7 = some m.cls := hC.1.2.2.2.1
  have hl : lv_has ls 3 [(0, .ref (a 0)), (1, .int x1), (2, .int x2)] := hl
  unfold V_X7_sees at hv
  have j_25 : ∀ (v1 : Int32) (v2 : Int32) (t0 : Int32) (g : St), J_X7_sees_25 x1 x2 post v1 v2 t0 g → ∀ (H : Heap) (locs : List Loc) (ls : Array Slot), uE D 16 mA (mO a) cs a F s g H locs → lv_has ls 3 [(0, .ref (a 0)), (1, .int v1), (2, .int v2)] → W p l e rm_X7_sees s m args below meth c H locs 0 0 (MQ below (va_Qi post (uB D (uW 16 mA (mO a) cs a)) F) args s 0 0 F) (F0 m 25 ls [.int t0, .ref (a 0)]) := by
    intro  v1 v2 t0 g  hv
    intro H locs ls hE hl
    unfold J_X7_sees_25 at hv
    refine lv_iconst (v := 1) hx hb dX7_sees_25 (by decide) ?_
    refine G_callVi hC (c_X7_no l D cs az a t0 1 g _ hv) (cwV 2 hts gX7_sees_X7_no rfl rfl rfl (by decide +kernel) ⟨Nat.le_of_ble_eq_true rfl, Nat.le_of_ble_eq_true rfl⟩) f_model rfl rfl hl rfl (Nat.le_of_ble_eq_true rfl) dX7_sees_26 hE (fun r3 g2 H locs hv hE => ?_)
    refine lv_if_ne (tgt := 45) hx hb dX7_sees_29 (by decide) (fun c => ?_) (fun c => ?_)
    · have hv := hv.1 c
      refine lv_iconst (v := 0) hx hb dX7_sees_45 (by decide) ?_
      exact G_zret hC hr hk hE rfl hv dX7_sees_46
    · have hv := hv.2 c
      refine lv_aload_n hx hb dX7_sees_32 rfl (lv_at hl 0 rfl) ?_
      refine lv_iload_n hx hb dX7_sees_33 rfl (lv_at hl 1 rfl) ?_
      refine lv_iload_n hx hb dX7_sees_34 rfl (lv_at hl 2 rfl) ?_
      refine G_callVi hC (c_X7_looksAt l D cs az a v1 v2 g2 _ hv) (cwV 2 hts gX7_sees_X7_looksAt rfl rfl rfl (by decide +kernel) ⟨Nat.le_of_ble_eq_true rfl, Nat.le_of_ble_eq_true rfl⟩) f_model rfl rfl hl rfl (Nat.le_of_ble_eq_true rfl) dX7_sees_35 hE (fun r5 g4 H locs hv hE => ?_)
      refine lv_if_eq (tgt := 45) hx hb dX7_sees_38 (by decide) (fun c => ?_) (fun c => ?_)
      · have hv := hv.1 c
        refine lv_iconst (v := 0) hx hb dX7_sees_45 (by decide) ?_
        exact G_zret hC hr hk hE rfl hv dX7_sees_46
      · have hv := hv.2 c
        refine lv_iconst (v := 1) hx hb dX7_sees_41 (by decide) ?_
        refine lv_goto (tgt := 46) hx hb dX7_sees_42 (by decide) ?_
        exact G_zret hC hr hk hE rfl hv dX7_sees_46
  have j_24 : ∀ (v1 : Int32) (v2 : Int32) (g : St), J_X7_sees_24 x1 x2 post v1 v2 g → ∀ (H : Heap) (locs : List Loc) (ls : Array Slot), uE D 16 mA (mO a) cs a F s g H locs → lv_has ls 3 [(0, .ref (a 0)), (1, .int v1), (2, .int v2)] → W p l e rm_X7_sees s m args below meth c H locs 0 0 (MQ below (va_Qi post (uB D (uW 16 mA (mO a) cs a)) F) args s 0 0 F) (F0 m 24 ls [.ref (a 0)]) := by
    intro  v1 v2 g  hv
    intro H locs ls hE hl
    unfold J_X7_sees_24 at hv
    refine lv_iconst (v := 0) hx hb dX7_sees_24 (by decide) ?_
    exact j_25  _ _ _ _  hv _ _ _ hE (lv_sub hl [0, 1, 2] rfl)
  refine lv_aload_n hx hb dX7_sees_0 rfl (lv_at hl 0 rfl) ?_
  refine lv_iload_n hx hb dX7_sees_1 rfl (lv_at hl 1 rfl) ?_
  refine lv_if_lt (tgt := 24) hx hb dX7_sees_2 (by decide) (fun c => ?_) (fun c => ?_)
  · have hv := hv.1 c
    exact j_24  _ _ _  hv _ _ _ hE (lv_sub hl [0, 1, 2] rfl)
  · have hv := hv.2 c
    refine lv_iload_n hx hb dX7_sees_5 rfl (lv_at hl 1 rfl) ?_
    refine lv_aload_n hx hb dX7_sees_6 rfl (lv_at hl 0 rfl) ?_
    refine G_get (v := .int (g.2 2)) hC hE (fun _ h => List.mem_cons_of_mem _ (List.mem_append_left _ (List.mem_append_left _ (List.mem_append_right _ h)))) f_model rfl 17 (by decide) (hts (.fieldLink RX7 65 "SeedBattleModel" "units" "I") (List.mem_of_getElem? (i := 1) rfl)) rfl dX7_sees_7 ?_
    refine lv_icmp_ge (tgt := 24) hx hb dX7_sees_10 (by decide) (fun c => ?_) (fun c => ?_)
    · have hv := hv.1 c
      exact j_24  _ _ _  hv _ _ _ hE (lv_sub hl [0, 1, 2] rfl)
    · have hv := hv.2 c
      refine lv_iload_n hx hb dX7_sees_13 rfl (lv_at hl 2 rfl) ?_
      refine G_callSs hC.1 hC.2.2.2.2.1 (c_X7_isCell l x2 _ hv) (va_cwS 1 hts gX7_sees_X7_isCell rfl rfl rfl (by decide +kernel) ⟨Nat.le_of_ble_eq_true rfl, Nat.le_of_ble_eq_true rfl⟩) rfl hl rfl (Nat.le_of_ble_eq_true rfl) dX7_sees_14 (Nat.zero_le _) (Nat.zero_le _) (fun r1 hv => ?_)
      refine lv_if_eq (tgt := 24) hx hb dX7_sees_17 (by decide) (fun c => ?_) (fun c => ?_)
      · have hv := hv.1 c
        exact j_24  _ _ _  hv _ _ _ hE (lv_sub hl [0, 1, 2] rfl)
      · have hv := hv.2 c
        refine lv_iconst (v := 1) hx hb dX7_sees_20 (by decide) ?_
        refine lv_goto (tgt := 25) hx hb dX7_sees_21 (by decide) ?_
        exact j_25  _ _ _ _  hv _ _ _ hE (lv_sub hl [0, 1, 2] rfl)
def J_X7_seen_35 (x1 : Int32) (post : Int32 → St → Prop) (K14 : (Int32 × Int32 × Int32 × St) → Prop) (v1 : Int32) (v3 : Int32) (t0 : Int32) (t1 : Int32) (g : St) : Prop := K14 (v1, (t1 + t0), (v3 + 1), g)
def J_X7_seen_14 (x1 : Int32) (post : Int32 → St → Prop) (K14 : (Int32 × Int32 × Int32 × St) → Prop) (v1 : Int32) (v2 : Int32) (v3 : Int32) (g : St) : Prop := ((64 ≤ v3 → post v2 g) ∧ (¬ 64 ≤ v3 → V_X7_watches v1 v3 g (fun r4 g3 => ((r4 = 0 → J_X7_seen_35 x1 post K14 v1 v3 0 v2 g3) ∧ (¬ r4 = 0 → J_X7_seen_35 x1 post K14 v1 v3 1 v2 g3)))))
def V_X7_seen (x1 : Int32) (g : St) (post : Int32 → St → Prop) : Prop := V_X7_noPlayer x1 g (fun r2 g1 => ((r2 = 0 → lpP (fun K14 (z : Int32 × Int32 × Int32 × St) => J_X7_seen_14 x1 post K14 z.1 z.2.1 z.2.2.1 z.2.2.2) (x1, 0, 0, g1)) ∧ (¬ r2 = 0 → post 0 g1)))
abbrev rm_X7_seen : Room := { frames := 3, cells := 0, slots := 0, locals := 79 }
set_option maxHeartbeats 4000000 in
set_option maxRecDepth 100000 in
theorem c_X7_seen (l : Launch) (D : va_G) (cs az a : Nat → Nat) (x1 : Int32) (g : St) (post : Int32 → St → Prop) (hv : V_X7_seen x1 g post) : uMi l yX7_seen wsX7_seen rm_X7_seen D cs az (mW cs a) [.ref (a 0), .int x1] g post := by
  refine u_ofI (cc := cX7_seen) (maxL := 4) (by decide) rfl (Nat.le_of_ble_eq_true rfl) ?_
  intro p e s m args below meth c F ls hC hr hk hl hE
  have hx := hC.1.1; have hb := hC.1.2.1; have hml := hC.1.2.2.1; have hts := hC.1.2.2.2.2
  have hown : s.vm.findClass RX7 = some m.cls := hC.1.2.2.2.1
  have hl : lv_has ls 4 [(0, .ref (a 0)), (1, .int x1)] := hl
  unfold V_X7_seen at hv
  have j_35 : ∀ (K14 : (Int32 × Int32 × Int32 × St) → Prop), (∀ (v1 : Int32) (v2 : Int32) (v3 : Int32) (g : St), K14 (v1, v2, v3, g) → ∀ (H : Heap) (locs : List Loc) (ls : Array Slot), uE D 16 mA (mO a) cs a F s g H locs → lv_has ls 4 [(0, .ref (a 0)), (1, .int v1), (2, .int v2), (3, .int v3)] → W p l e rm_X7_seen s m args below meth c H locs 0 0 (MQ below (va_Qi post (uB D (uW 16 mA (mO a) cs a)) F) args s 0 0 F) (F0 m 14 ls [])) → ∀ (v1 : Int32) (v3 : Int32) (t0 : Int32) (t1 : Int32) (g : St), J_X7_seen_35 x1 post K14 v1 v3 t0 t1 g → ∀ (H : Heap) (locs : List Loc) (ls : Array Slot), uE D 16 mA (mO a) cs a F s g H locs → lv_has ls 4 [(0, .ref (a 0)), (1, .int v1), (3, .int v3)] → W p l e rm_X7_seen s m args below meth c H locs 0 0 (MQ below (va_Qi post (uB D (uW 16 mA (mO a) cs a)) F) args s 0 0 F) (F0 m 35 ls [.int t0, .int t1]) := by
    intro K14 hK14 v1 v3 t0 t1 g  hv
    intro H locs ls hE hl
    unfold J_X7_seen_35 at hv
    refine lv_iadd hx hb dX7_seen_35 ?_
    refine lv_istore_n (lv' := [(2, .int (t1 + t0)), (0, .ref (a 0)), (1, .int v1), (3, .int v3)]) hx hb dX7_seen_36 rfl hl (by decide) rfl (fun ls hl => ?_)
    refine lv_iinc (v := (v3 + 1)) (lv' := [(3, .int (v3 + 1)), (2, .int (t1 + t0)), (0, .ref (a 0)), (1, .int v1)]) hx hb dX7_seen_37 hl (k := 3) rfl rfl (by decide) rfl (fun ls hl => ?_)
    refine lv_goto (tgt := 14) hx hb dX7_seen_40 (by decide) ?_
    exact hK14 _ _ _ _  hv _ _ _ hE (lv_sub hl [2, 3, 1, 0] rfl)
  have j_14 : ∀ (v1 : Int32) (v2 : Int32) (v3 : Int32) (g : St), lpP (fun K14 (z : Int32 × Int32 × Int32 × St) => J_X7_seen_14 x1 post K14 z.1 z.2.1 z.2.2.1 z.2.2.2) (v1, v2, v3, g) → ∀ (H : Heap) (locs : List Loc) (ls : Array Slot), uE D 16 mA (mO a) cs a F s g H locs → lv_has ls 4 [(0, .ref (a 0)), (1, .int v1), (2, .int v2), (3, .int v3)] → W p l e rm_X7_seen s m args below meth c H locs 0 0 (MQ below (va_Qi post (uB D (uW 16 mA (mO a) cs a)) F) args s 0 0 F) (F0 m 14 ls []) := by
    intro  v1 v2 v3 g  hv
    obtain ⟨nn, hv⟩ := hv
    induction nn generalizing v1 v2 v3 g with
    | zero => exact False.elim hv
    | succ nn hK14 =>
      intro H locs ls hE hl
      have hv : J_X7_seen_14 x1 post (itP _ nn) v1 v2 v3 g := hv
      unfold J_X7_seen_14 at hv
      refine lv_iload_n hx hb dX7_seen_14 rfl (lv_at hl 3 rfl) ?_
      refine lv_bipush (v := 64) hx hb dX7_seen_15 (by decide) ?_
      refine lv_icmp_ge (tgt := 43) hx hb dX7_seen_17 (by decide) (fun c => ?_) (fun c => ?_)
      · have hv := hv.1 c
        refine lv_iload_n hx hb dX7_seen_43 rfl (lv_at hl 2 rfl) ?_
        exact G_iret hC hr hk hE hv dX7_seen_44
      · have hv := hv.2 c
        refine lv_iload_n hx hb dX7_seen_20 rfl (lv_at hl 2 rfl) ?_
        refine lv_aload_n hx hb dX7_seen_21 rfl (lv_at hl 0 rfl) ?_
        refine lv_iload_n hx hb dX7_seen_22 rfl (lv_at hl 1 rfl) ?_
        refine lv_iload_n hx hb dX7_seen_23 rfl (lv_at hl 3 rfl) ?_
        refine G_callVi hC (c_X7_watches l D cs az a v1 v3 g _ hv) (cwV 2 hts gX7_seen_X7_watches rfl rfl rfl (by decide +kernel) ⟨Nat.le_of_ble_eq_true rfl, Nat.le_of_ble_eq_true rfl⟩) f_model rfl rfl hl rfl (Nat.le_of_ble_eq_true rfl) dX7_seen_24 hE (fun r4 g3 H locs hv hE => ?_)
        refine lv_if_eq (tgt := 34) hx hb dX7_seen_27 (by decide) (fun c => ?_) (fun c => ?_)
        · have hv := hv.1 c
          refine lv_iconst (v := 0) hx hb dX7_seen_34 (by decide) ?_
          exact j_35 _ hK14 _ _ _ _ _  hv _ _ _ hE (lv_sub hl [0, 1, 3] rfl)
        · have hv := hv.2 c
          refine lv_iconst (v := 1) hx hb dX7_seen_30 (by decide) ?_
          refine lv_goto (tgt := 35) hx hb dX7_seen_31 (by decide) ?_
          exact j_35 _ hK14 _ _ _ _ _  hv _ _ _ hE (lv_sub hl [0, 1, 3] rfl)
  refine lv_aload_n hx hb dX7_seen_0 rfl (lv_at hl 0 rfl) ?_
  refine lv_iload_n hx hb dX7_seen_1 rfl (lv_at hl 1 rfl) ?_
  refine G_callVi hC (c_X7_noPlayer l D cs az a x1 g _ hv) (cwV 1 hts gX7_seen_X7_noPlayer rfl rfl rfl (by decide +kernel) ⟨Nat.le_of_ble_eq_true rfl, Nat.le_of_ble_eq_true rfl⟩) f_model rfl rfl hl rfl (Nat.le_of_ble_eq_true rfl) dX7_seen_2 hE (fun r2 g1 H locs hv hE => ?_)
  refine lv_if_eq (tgt := 10) hx hb dX7_seen_5 (by decide) (fun c => ?_) (fun c => ?_)
  · have hv := hv.1 c
    refine lv_iconst (v := 0) hx hb dX7_seen_10 (by decide) ?_
    refine lv_istore_n (lv' := [(2, .int 0), (0, .ref (a 0)), (1, .int x1)]) hx hb dX7_seen_11 rfl hl (by decide) rfl (fun ls hl => ?_)
    refine lv_iconst (v := 0) hx hb dX7_seen_12 (by decide) ?_
    refine lv_istore_n (lv' := [(3, .int 0), (2, .int 0), (0, .ref (a 0)), (1, .int x1)]) hx hb dX7_seen_13 rfl hl (by decide) rfl (fun ls hl => ?_)
    exact j_14  _ _ _ _  hv _ _ _ hE (lv_sub hl [2, 3, 1, 0] rfl)
  · have hv := hv.2 c
    refine lv_iconst (v := 0) hx hb dX7_seen_8 (by decide) ?_
    exact G_iret hC hr hk hE hv dX7_seen_9
def J_X7_setTreaty_110 (x1 : Int32) (x2 : Int32) (x3 : Int32) (post : Int32 → St → Prop)  (v1 : Int32) (v2 : Int32) (v3 : Int32) (v4 : Int32) (t0 : Int32) (t1 : Int32) (t2 : Int32) (g : St) : Prop := vp_in t2 16 ∧ (vp_in ((4 * v2) + v1) 16 ∧ (((v4 = 0 → vp_in ((4 * v2) + v1) 16 ∧ ((narrow .boolean (.int v4) = .int v4) ∧ post v4 (sA (sA g 15 (upd (g.1 15) (Int32.toNatClampNeg t2) (vp_nar .boolean (t1 ||| t0)))) 15 (upd ((sA g 15 (upd (g.1 15) (Int32.toNatClampNeg t2) (vp_nar .boolean (t1 ||| t0)))).1 15) (Int32.toNatClampNeg ((4 * v2) + v1)) (vp_nar .boolean (((sA g 15 (upd (g.1 15) (Int32.toNatClampNeg t2) (vp_nar .boolean (t1 ||| t0)))).1 15 (Int32.toNatClampNeg ((4 * v2) + v1))) ||| 0)))))) ∧ (¬ v4 = 0 → ((¬ v3 = 0 → vp_in ((4 * v2) + v1) 16 ∧ ((narrow .boolean (.int v4) = .int v4) ∧ post v4 (sA (sA g 15 (upd (g.1 15) (Int32.toNatClampNeg t2) (vp_nar .boolean (t1 ||| t0)))) 15 (upd ((sA g 15 (upd (g.1 15) (Int32.toNatClampNeg t2) (vp_nar .boolean (t1 ||| t0)))).1 15) (Int32.toNatClampNeg ((4 * v2) + v1)) (vp_nar .boolean (((sA g 15 (upd (g.1 15) (Int32.toNatClampNeg t2) (vp_nar .boolean (t1 ||| t0)))).1 15 (Int32.toNatClampNeg ((4 * v2) + v1))) ||| 0)))))) ∧ (v3 = 0 → vp_in ((4 * v2) + v1) 16 ∧ ((narrow .boolean (.int v4) = .int v4) ∧ post v4 (sA (sA g 15 (upd (g.1 15) (Int32.toNatClampNeg t2) (vp_nar .boolean (t1 ||| t0)))) 15 (upd ((sA g 15 (upd (g.1 15) (Int32.toNatClampNeg t2) (vp_nar .boolean (t1 ||| t0)))).1 15) (Int32.toNatClampNeg ((4 * v2) + v1)) (vp_nar .boolean (((sA g 15 (upd (g.1 15) (Int32.toNatClampNeg t2) (vp_nar .boolean (t1 ||| t0)))).1 15 (Int32.toNatClampNeg ((4 * v2) + v1))) ||| 1)))))))))))
def J_X7_setTreaty_109 (x1 : Int32) (x2 : Int32) (x3 : Int32) (post : Int32 → St → Prop)  (v1 : Int32) (v2 : Int32) (v3 : Int32) (v4 : Int32) (t0 : Int32) (t1 : Int32) (g : St) : Prop := J_X7_setTreaty_110 x1 x2 x3 post v1 v2 v3 v4 0 t0 t1 g
def J_X7_setTreaty_42 (x1 : Int32) (x2 : Int32) (x3 : Int32) (post : Int32 → St → Prop)  (v1 : Int32) (v2 : Int32) (v3 : Int32) (t0 : Int32) (g : St) : Prop := V_X7_no t0 2 g (fun r4 g3 => ((r4 = 0 → vp_in ((4 * v1) + v2) 16 ∧ (vp_in ((4 * v1) + v2) 16 ∧ (vp_in ((4 * v2) + v1) 16 ∧ (vp_in ((4 * v1) + v2) 16 ∧ ((((g3.1 8 (Int32.toNatClampNeg ((4 * v1) + v2))) = 0 → J_X7_setTreaty_109 x1 x2 x3 post v1 v2 v3 (g3.1 8 (Int32.toNatClampNeg ((4 * v1) + v2))) ((sA (sA g3 8 (upd (g3.1 8) (Int32.toNatClampNeg ((4 * v1) + v2)) (vp_nar .boolean v3))) 8 (upd ((sA g3 8 (upd (g3.1 8) (Int32.toNatClampNeg ((4 * v1) + v2)) (vp_nar .boolean v3))).1 8) (Int32.toNatClampNeg ((4 * v2) + v1)) (vp_nar .boolean v3))).1 15 (Int32.toNatClampNeg ((4 * v1) + v2))) ((4 * v1) + v2) (sA (sA g3 8 (upd (g3.1 8) (Int32.toNatClampNeg ((4 * v1) + v2)) (vp_nar .boolean v3))) 8 (upd ((sA g3 8 (upd (g3.1 8) (Int32.toNatClampNeg ((4 * v1) + v2)) (vp_nar .boolean v3))).1 8) (Int32.toNatClampNeg ((4 * v2) + v1)) (vp_nar .boolean v3)))) ∧ (¬ (g3.1 8 (Int32.toNatClampNeg ((4 * v1) + v2))) = 0 → ((¬ v3 = 0 → J_X7_setTreaty_109 x1 x2 x3 post v1 v2 v3 (g3.1 8 (Int32.toNatClampNeg ((4 * v1) + v2))) ((sA (sA g3 8 (upd (g3.1 8) (Int32.toNatClampNeg ((4 * v1) + v2)) (vp_nar .boolean v3))) 8 (upd ((sA g3 8 (upd (g3.1 8) (Int32.toNatClampNeg ((4 * v1) + v2)) (vp_nar .boolean v3))).1 8) (Int32.toNatClampNeg ((4 * v2) + v1)) (vp_nar .boolean v3))).1 15 (Int32.toNatClampNeg ((4 * v1) + v2))) ((4 * v1) + v2) (sA (sA g3 8 (upd (g3.1 8) (Int32.toNatClampNeg ((4 * v1) + v2)) (vp_nar .boolean v3))) 8 (upd ((sA g3 8 (upd (g3.1 8) (Int32.toNatClampNeg ((4 * v1) + v2)) (vp_nar .boolean v3))).1 8) (Int32.toNatClampNeg ((4 * v2) + v1)) (vp_nar .boolean v3)))) ∧ (v3 = 0 → J_X7_setTreaty_110 x1 x2 x3 post v1 v2 v3 (g3.1 8 (Int32.toNatClampNeg ((4 * v1) + v2))) 1 ((sA (sA g3 8 (upd (g3.1 8) (Int32.toNatClampNeg ((4 * v1) + v2)) (vp_nar .boolean v3))) 8 (upd ((sA g3 8 (upd (g3.1 8) (Int32.toNatClampNeg ((4 * v1) + v2)) (vp_nar .boolean v3))).1 8) (Int32.toNatClampNeg ((4 * v2) + v1)) (vp_nar .boolean v3))).1 15 (Int32.toNatClampNeg ((4 * v1) + v2))) ((4 * v1) + v2) (sA (sA g3 8 (upd (g3.1 8) (Int32.toNatClampNeg ((4 * v1) + v2)) (vp_nar .boolean v3))) 8 (upd ((sA g3 8 (upd (g3.1 8) (Int32.toNatClampNeg ((4 * v1) + v2)) (vp_nar .boolean v3))).1 8) (Int32.toNatClampNeg ((4 * v2) + v1)) (vp_nar .boolean v3)))))))))))) ∧ (¬ r4 = 0 → post 0 g3)))
def J_X7_setTreaty_24 (x1 : Int32) (x2 : Int32) (x3 : Int32) (post : Int32 → St → Prop)  (v1 : Int32) (v2 : Int32) (v3 : Int32) (t0 : Int32) (g : St) : Prop := V_X7_no t0 1 g (fun r2 g1 => ((¬ r2 = 0 → post 0 g1) ∧ (r2 = 0 → ((v1 = v2 → J_X7_setTreaty_42 x1 x2 x3 post v1 v2 v3 0 g1) ∧ (¬ v1 = v2 → J_X7_setTreaty_42 x1 x2 x3 post v1 v2 v3 1 g1)))))
def J_X7_setTreaty_23 (x1 : Int32) (x2 : Int32) (x3 : Int32) (post : Int32 → St → Prop)  (v1 : Int32) (v2 : Int32) (v3 : Int32) (g : St) : Prop := J_X7_setTreaty_24 x1 x2 x3 post v1 v2 v3 0 g
def V_X7_setTreaty (x1 : Int32) (x2 : Int32) (x3 : Int32) (g : St) (post : Int32 → St → Prop) : Prop := ((x1 < 0 → J_X7_setTreaty_23 x1 x2 x3 post x1 x2 x3 g) ∧ (¬ x1 < 0 → ((4 ≤ x1 → J_X7_setTreaty_23 x1 x2 x3 post x1 x2 x3 g) ∧ (¬ 4 ≤ x1 → ((x2 < 0 → J_X7_setTreaty_23 x1 x2 x3 post x1 x2 x3 g) ∧ (¬ x2 < 0 → ((4 ≤ x2 → J_X7_setTreaty_23 x1 x2 x3 post x1 x2 x3 g) ∧ (¬ 4 ≤ x2 → J_X7_setTreaty_24 x1 x2 x3 post x1 x2 x3 1 g))))))))
abbrev rm_X7_setTreaty : Room := { frames := 1, cells := 0, slots := 0, locals := 22 }
set_option maxHeartbeats 4000000 in
set_option maxRecDepth 100000 in
theorem c_X7_setTreaty (l : Launch) (D : va_G) (cs az a : Nat → Nat) (x1 : Int32) (x2 : Int32) (x3 : Int32) (g : St) (post : Int32 → St → Prop) (hv : V_X7_setTreaty x1 x2 x3 g post) : uMi l yX7_setTreaty wsX7_setTreaty rm_X7_setTreaty D cs az (mW cs a) [.ref (a 0), .int x1, .int x2, .int x3] g post := by
  refine u_ofI (cc := cX7_setTreaty) (maxL := 5) (by decide) rfl (Nat.le_of_ble_eq_true rfl) ?_
  intro p e s m args below meth c F ls hC hr hk hl hE
  have hx := hC.1.1; have hb := hC.1.2.1; have hml := hC.1.2.2.1; have hts := hC.1.2.2.2.2
  have hown : s.vm.findClass RX7 = some m.cls := hC.1.2.2.2.1
  have hl : lv_has ls 5 [(0, .ref (a 0)), (1, .int x1), (2, .int x2), (3, .int x3)] := hl
  unfold V_X7_setTreaty at hv
  have j_110 : ∀ (v1 : Int32) (v2 : Int32) (v3 : Int32) (v4 : Int32) (t0 : Int32) (t1 : Int32) (t2 : Int32) (g : St), J_X7_setTreaty_110 x1 x2 x3 post v1 v2 v3 v4 t0 t1 t2 g → ∀ (H : Heap) (locs : List Loc) (ls : Array Slot), uE D 16 mA (mO a) cs a F s g H locs → lv_has ls 5 [(0, .ref (a 0)), (1, .int v1), (2, .int v2), (3, .int v3), (4, .int v4)] → W p l e rm_X7_setTreaty s m args below meth c H locs 0 0 (MQ below (va_Qi post (uB D (uW 16 mA (mO a) cs a)) F) args s 0 0 F) (F0 m 110 ls [.int t0, .int t1, .int t2, .ref (a 15)]) := by
    intro  v1 v2 v3 v4 t0 t1 t2 g  hv
    intro H locs ls hE hl
    unfold J_X7_setTreaty_110 at hv
    refine lv_ior hx hb dX7_setTreaty_110 ?_
    refine G_zast hC hE f_m_ended hv.1 dX7_setTreaty_111 (fun H locs hE => ?_)
    have hv := hv.2
    refine lv_aload_n hx hb dX7_setTreaty_112 rfl (lv_at hl 0 rfl) ?_
    refine G_get (v := .ref (a 15)) hC hE (fun _ h => List.mem_cons_of_mem _ (List.mem_append_left _ (List.mem_append_right _ h))) f_model rfl 14 (by decide) (hts (.fieldLink RX7 54 "SeedBattleModel" "ended" "[Z") (List.mem_of_getElem? (i := 2) rfl)) rfl dX7_setTreaty_113 ?_
    refine lv_iconst (v := 4) hx hb dX7_setTreaty_116 (by decide) ?_
    refine lv_iload_n hx hb dX7_setTreaty_117 rfl (lv_at hl 2 rfl) ?_
    refine lv_imul hx hb dX7_setTreaty_118 ?_
    refine lv_iload_n hx hb dX7_setTreaty_119 rfl (lv_at hl 1 rfl) ?_
    refine lv_iadd hx hb dX7_setTreaty_120 ?_
    refine lv_dup2_11 hx hb dX7_setTreaty_121 rfl rfl ?_
    refine G_zald hC hE f_m_ended hv.1 dX7_setTreaty_122 ?_
    have hv := hv.2
    refine lv_iload hx hb dX7_setTreaty_123 (lv_at hl 4 rfl) ?_
    refine lv_if_eq (tgt := 136) hx hb dX7_setTreaty_125 (by decide) (fun c => ?_) (fun c => ?_)
    · have hv := hv.1 c
      refine lv_iconst (v := 0) hx hb dX7_setTreaty_136 (by decide) ?_
      refine lv_ior hx hb dX7_setTreaty_137 ?_
      refine G_zast hC hE f_m_ended hv.1 dX7_setTreaty_138 (fun H locs hE => ?_)
      have hv := hv.2
      refine lv_iload hx hb dX7_setTreaty_139 (lv_at hl 4 rfl) ?_
      exact G_zret hC hr hk hE hv.1 hv.2 dX7_setTreaty_141
    · have hv := hv.2 c
      refine lv_iload_n hx hb dX7_setTreaty_128 rfl (lv_at hl 3 rfl) ?_
      refine lv_if_ne (tgt := 136) hx hb dX7_setTreaty_129 (by decide) (fun c => ?_) (fun c => ?_)
      · have hv := hv.1 c
        refine lv_iconst (v := 0) hx hb dX7_setTreaty_136 (by decide) ?_
        refine lv_ior hx hb dX7_setTreaty_137 ?_
        refine G_zast hC hE f_m_ended hv.1 dX7_setTreaty_138 (fun H locs hE => ?_)
        have hv := hv.2
        refine lv_iload hx hb dX7_setTreaty_139 (lv_at hl 4 rfl) ?_
        exact G_zret hC hr hk hE hv.1 hv.2 dX7_setTreaty_141
      · have hv := hv.2 c
        refine lv_iconst (v := 1) hx hb dX7_setTreaty_132 (by decide) ?_
        refine lv_goto (tgt := 137) hx hb dX7_setTreaty_133 (by decide) ?_
        refine lv_ior hx hb dX7_setTreaty_137 ?_
        refine G_zast hC hE f_m_ended hv.1 dX7_setTreaty_138 (fun H locs hE => ?_)
        have hv := hv.2
        refine lv_iload hx hb dX7_setTreaty_139 (lv_at hl 4 rfl) ?_
        exact G_zret hC hr hk hE hv.1 hv.2 dX7_setTreaty_141
  have j_109 : ∀ (v1 : Int32) (v2 : Int32) (v3 : Int32) (v4 : Int32) (t0 : Int32) (t1 : Int32) (g : St), J_X7_setTreaty_109 x1 x2 x3 post v1 v2 v3 v4 t0 t1 g → ∀ (H : Heap) (locs : List Loc) (ls : Array Slot), uE D 16 mA (mO a) cs a F s g H locs → lv_has ls 5 [(0, .ref (a 0)), (1, .int v1), (2, .int v2), (3, .int v3), (4, .int v4)] → W p l e rm_X7_setTreaty s m args below meth c H locs 0 0 (MQ below (va_Qi post (uB D (uW 16 mA (mO a) cs a)) F) args s 0 0 F) (F0 m 109 ls [.int t0, .int t1, .ref (a 15)]) := by
    intro  v1 v2 v3 v4 t0 t1 g  hv
    intro H locs ls hE hl
    unfold J_X7_setTreaty_109 at hv
    refine lv_iconst (v := 0) hx hb dX7_setTreaty_109 (by decide) ?_
    exact j_110  _ _ _ _ _ _ _ _  hv _ _ _ hE (lv_sub hl [0, 1, 2, 3, 4] rfl)
  have j_42 : ∀ (v1 : Int32) (v2 : Int32) (v3 : Int32) (t0 : Int32) (g : St), J_X7_setTreaty_42 x1 x2 x3 post v1 v2 v3 t0 g → ∀ (H : Heap) (locs : List Loc) (ls : Array Slot), uE D 16 mA (mO a) cs a F s g H locs → lv_has ls 5 [(0, .ref (a 0)), (1, .int v1), (2, .int v2), (3, .int v3)] → W p l e rm_X7_setTreaty s m args below meth c H locs 0 0 (MQ below (va_Qi post (uB D (uW 16 mA (mO a) cs a)) F) args s 0 0 F) (F0 m 42 ls [.int t0, .ref (a 0)]) := by
    intro  v1 v2 v3 t0 g  hv
    intro H locs ls hE hl
    unfold J_X7_setTreaty_42 at hv
    refine lv_iconst (v := 2) hx hb dX7_setTreaty_42 (by decide) ?_
    refine G_callVi hC (c_X7_no l D cs az a t0 2 g _ hv) (cwV 2 hts gX7_setTreaty_X7_no rfl rfl rfl (by decide +kernel) ⟨Nat.le_of_ble_eq_true rfl, Nat.le_of_ble_eq_true rfl⟩) f_model rfl rfl hl rfl (Nat.le_of_ble_eq_true rfl) dX7_setTreaty_43 hE (fun r4 g3 H locs hv hE => ?_)
    refine lv_if_eq (tgt := 51) hx hb dX7_setTreaty_46 (by decide) (fun c => ?_) (fun c => ?_)
    · have hv := hv.1 c
      refine lv_aload_n hx hb dX7_setTreaty_51 rfl (lv_at hl 0 rfl) ?_
      refine G_get (v := .ref (a 8)) hC hE (fun _ h => List.mem_cons_of_mem _ (List.mem_append_left _ (List.mem_append_right _ h))) f_model rfl 7 (by decide) (hts (.fieldLink RX7 32 "SeedBattleModel" "treaty" "[Z") (List.mem_of_getElem? (i := 1) rfl)) rfl dX7_setTreaty_52 ?_
      refine lv_iconst (v := 4) hx hb dX7_setTreaty_55 (by decide) ?_
      refine lv_iload_n hx hb dX7_setTreaty_56 rfl (lv_at hl 1 rfl) ?_
      refine lv_imul hx hb dX7_setTreaty_57 ?_
      refine lv_iload_n hx hb dX7_setTreaty_58 rfl (lv_at hl 2 rfl) ?_
      refine lv_iadd hx hb dX7_setTreaty_59 ?_
      refine G_zald hC hE f_m_treaty hv.1 dX7_setTreaty_60 ?_
      have hv := hv.2
      refine lv_istore (lv' := [(4, .int (g3.1 8 (Int32.toNatClampNeg ((4 * v1) + v2)))), (0, .ref (a 0)), (1, .int v1), (2, .int v2), (3, .int v3)]) hx hb dX7_setTreaty_61 hl (by decide) rfl (fun ls hl => ?_)
      refine lv_aload_n hx hb dX7_setTreaty_63 rfl (lv_at hl 1 rfl) ?_
      refine G_get (v := .ref (a 8)) hC hE (fun _ h => List.mem_cons_of_mem _ (List.mem_append_left _ (List.mem_append_right _ h))) f_model rfl 7 (by decide) (hts (.fieldLink RX7 32 "SeedBattleModel" "treaty" "[Z") (List.mem_of_getElem? (i := 1) rfl)) rfl dX7_setTreaty_64 ?_
      refine lv_iconst (v := 4) hx hb dX7_setTreaty_67 (by decide) ?_
      refine lv_iload_n hx hb dX7_setTreaty_68 rfl (lv_at hl 2 rfl) ?_
      refine lv_imul hx hb dX7_setTreaty_69 ?_
      refine lv_iload_n hx hb dX7_setTreaty_70 rfl (lv_at hl 3 rfl) ?_
      refine lv_iadd hx hb dX7_setTreaty_71 ?_
      refine lv_iload_n hx hb dX7_setTreaty_72 rfl (lv_at hl 4 rfl) ?_
      refine G_zast hC hE f_m_treaty hv.1 dX7_setTreaty_73 (fun H locs hE => ?_)
      have hv := hv.2
      refine lv_aload_n hx hb dX7_setTreaty_74 rfl (lv_at hl 1 rfl) ?_
      refine G_get (v := .ref (a 8)) hC hE (fun _ h => List.mem_cons_of_mem _ (List.mem_append_left _ (List.mem_append_right _ h))) f_model rfl 7 (by decide) (hts (.fieldLink RX7 32 "SeedBattleModel" "treaty" "[Z") (List.mem_of_getElem? (i := 1) rfl)) rfl dX7_setTreaty_75 ?_
      refine lv_iconst (v := 4) hx hb dX7_setTreaty_78 (by decide) ?_
      refine lv_iload_n hx hb dX7_setTreaty_79 rfl (lv_at hl 3 rfl) ?_
      refine lv_imul hx hb dX7_setTreaty_80 ?_
      refine lv_iload_n hx hb dX7_setTreaty_81 rfl (lv_at hl 2 rfl) ?_
      refine lv_iadd hx hb dX7_setTreaty_82 ?_
      refine lv_iload_n hx hb dX7_setTreaty_83 rfl (lv_at hl 4 rfl) ?_
      refine G_zast hC hE f_m_treaty hv.1 dX7_setTreaty_84 (fun H locs hE => ?_)
      have hv := hv.2
      refine lv_aload_n hx hb dX7_setTreaty_85 rfl (lv_at hl 1 rfl) ?_
      refine G_get (v := .ref (a 15)) hC hE (fun _ h => List.mem_cons_of_mem _ (List.mem_append_left _ (List.mem_append_right _ h))) f_model rfl 14 (by decide) (hts (.fieldLink RX7 54 "SeedBattleModel" "ended" "[Z") (List.mem_of_getElem? (i := 2) rfl)) rfl dX7_setTreaty_86 ?_
      refine lv_iconst (v := 4) hx hb dX7_setTreaty_89 (by decide) ?_
      refine lv_iload_n hx hb dX7_setTreaty_90 rfl (lv_at hl 2 rfl) ?_
      refine lv_imul hx hb dX7_setTreaty_91 ?_
      refine lv_iload_n hx hb dX7_setTreaty_92 rfl (lv_at hl 3 rfl) ?_
      refine lv_iadd hx hb dX7_setTreaty_93 ?_
      refine lv_dup2_11 hx hb dX7_setTreaty_94 rfl rfl ?_
      refine G_zald hC hE f_m_ended hv.1 dX7_setTreaty_95 ?_
      have hv := hv.2
      refine lv_iload hx hb dX7_setTreaty_96 (lv_at hl 0 rfl) ?_
      refine lv_if_eq (tgt := 109) hx hb dX7_setTreaty_98 (by decide) (fun c => ?_) (fun c => ?_)
      · have hv := hv.1 c
        exact j_109  _ _ _ _ _ _ _  hv _ _ _ hE (lv_sub hl [1, 2, 3, 4, 0] rfl)
      · have hv := hv.2 c
        refine lv_iload_n hx hb dX7_setTreaty_101 rfl (lv_at hl 4 rfl) ?_
        refine lv_if_ne (tgt := 109) hx hb dX7_setTreaty_102 (by decide) (fun c => ?_) (fun c => ?_)
        · have hv := hv.1 c
          exact j_109  _ _ _ _ _ _ _  hv _ _ _ hE (lv_sub hl [1, 2, 3, 4, 0] rfl)
        · have hv := hv.2 c
          refine lv_iconst (v := 1) hx hb dX7_setTreaty_105 (by decide) ?_
          refine lv_goto (tgt := 110) hx hb dX7_setTreaty_106 (by decide) ?_
          exact j_110  _ _ _ _ _ _ _ _  hv _ _ _ hE (lv_sub hl [1, 2, 3, 4, 0] rfl)
    · have hv := hv.2 c
      refine lv_iconst (v := 0) hx hb dX7_setTreaty_49 (by decide) ?_
      exact G_zret hC hr hk hE rfl hv dX7_setTreaty_50
  have j_24 : ∀ (v1 : Int32) (v2 : Int32) (v3 : Int32) (t0 : Int32) (g : St), J_X7_setTreaty_24 x1 x2 x3 post v1 v2 v3 t0 g → ∀ (H : Heap) (locs : List Loc) (ls : Array Slot), uE D 16 mA (mO a) cs a F s g H locs → lv_has ls 5 [(0, .ref (a 0)), (1, .int v1), (2, .int v2), (3, .int v3)] → W p l e rm_X7_setTreaty s m args below meth c H locs 0 0 (MQ below (va_Qi post (uB D (uW 16 mA (mO a) cs a)) F) args s 0 0 F) (F0 m 24 ls [.int t0, .ref (a 0)]) := by
    intro  v1 v2 v3 t0 g  hv
    intro H locs ls hE hl
    unfold J_X7_setTreaty_24 at hv
    refine lv_iconst (v := 1) hx hb dX7_setTreaty_24 (by decide) ?_
    refine G_callVi hC (c_X7_no l D cs az a t0 1 g _ hv) (cwV 2 hts gX7_setTreaty_X7_no rfl rfl rfl (by decide +kernel) ⟨Nat.le_of_ble_eq_true rfl, Nat.le_of_ble_eq_true rfl⟩) f_model rfl rfl hl rfl (Nat.le_of_ble_eq_true rfl) dX7_setTreaty_25 hE (fun r2 g1 H locs hv hE => ?_)
    refine lv_if_ne (tgt := 49) hx hb dX7_setTreaty_28 (by decide) (fun c => ?_) (fun c => ?_)
    · have hv := hv.1 c
      refine lv_iconst (v := 0) hx hb dX7_setTreaty_49 (by decide) ?_
      exact G_zret hC hr hk hE rfl hv dX7_setTreaty_50
    · have hv := hv.2 c
      refine lv_aload_n hx hb dX7_setTreaty_31 rfl (lv_at hl 0 rfl) ?_
      refine lv_iload_n hx hb dX7_setTreaty_32 rfl (lv_at hl 1 rfl) ?_
      refine lv_iload_n hx hb dX7_setTreaty_33 rfl (lv_at hl 2 rfl) ?_
      refine lv_icmp_eq (tgt := 41) hx hb dX7_setTreaty_34 (by decide) (fun c => ?_) (fun c => ?_)
      · have hv := hv.1 c
        refine lv_iconst (v := 0) hx hb dX7_setTreaty_41 (by decide) ?_
        exact j_42  _ _ _ _ _  hv _ _ _ hE (lv_sub hl [0, 1, 2, 3] rfl)
      · have hv := hv.2 c
        refine lv_iconst (v := 1) hx hb dX7_setTreaty_37 (by decide) ?_
        refine lv_goto (tgt := 42) hx hb dX7_setTreaty_38 (by decide) ?_
        exact j_42  _ _ _ _ _  hv _ _ _ hE (lv_sub hl [0, 1, 2, 3] rfl)
  have j_23 : ∀ (v1 : Int32) (v2 : Int32) (v3 : Int32) (g : St), J_X7_setTreaty_23 x1 x2 x3 post v1 v2 v3 g → ∀ (H : Heap) (locs : List Loc) (ls : Array Slot), uE D 16 mA (mO a) cs a F s g H locs → lv_has ls 5 [(0, .ref (a 0)), (1, .int v1), (2, .int v2), (3, .int v3)] → W p l e rm_X7_setTreaty s m args below meth c H locs 0 0 (MQ below (va_Qi post (uB D (uW 16 mA (mO a) cs a)) F) args s 0 0 F) (F0 m 23 ls [.ref (a 0)]) := by
    intro  v1 v2 v3 g  hv
    intro H locs ls hE hl
    unfold J_X7_setTreaty_23 at hv
    refine lv_iconst (v := 0) hx hb dX7_setTreaty_23 (by decide) ?_
    exact j_24  _ _ _ _ _  hv _ _ _ hE (lv_sub hl [0, 1, 2, 3] rfl)
  refine lv_aload_n hx hb dX7_setTreaty_0 rfl (lv_at hl 0 rfl) ?_
  refine lv_iload_n hx hb dX7_setTreaty_1 rfl (lv_at hl 1 rfl) ?_
  refine lv_if_lt (tgt := 23) hx hb dX7_setTreaty_2 (by decide) (fun c => ?_) (fun c => ?_)
  · have hv := hv.1 c
    exact j_23  _ _ _ _  hv _ _ _ hE (lv_sub hl [0, 1, 2, 3] rfl)
  · have hv := hv.2 c
    refine lv_iload_n hx hb dX7_setTreaty_5 rfl (lv_at hl 1 rfl) ?_
    refine lv_iconst (v := 4) hx hb dX7_setTreaty_6 (by decide) ?_
    refine lv_icmp_ge (tgt := 23) hx hb dX7_setTreaty_7 (by decide) (fun c => ?_) (fun c => ?_)
    · have hv := hv.1 c
      exact j_23  _ _ _ _  hv _ _ _ hE (lv_sub hl [0, 1, 2, 3] rfl)
    · have hv := hv.2 c
      refine lv_iload_n hx hb dX7_setTreaty_10 rfl (lv_at hl 2 rfl) ?_
      refine lv_if_lt (tgt := 23) hx hb dX7_setTreaty_11 (by decide) (fun c => ?_) (fun c => ?_)
      · have hv := hv.1 c
        exact j_23  _ _ _ _  hv _ _ _ hE (lv_sub hl [0, 1, 2, 3] rfl)
      · have hv := hv.2 c
        refine lv_iload_n hx hb dX7_setTreaty_14 rfl (lv_at hl 2 rfl) ?_
        refine lv_iconst (v := 4) hx hb dX7_setTreaty_15 (by decide) ?_
        refine lv_icmp_ge (tgt := 23) hx hb dX7_setTreaty_16 (by decide) (fun c => ?_) (fun c => ?_)
        · have hv := hv.1 c
          exact j_23  _ _ _ _  hv _ _ _ hE (lv_sub hl [0, 1, 2, 3] rfl)
        · have hv := hv.2 c
          refine lv_iconst (v := 1) hx hb dX7_setTreaty_19 (by decide) ?_
          refine lv_goto (tgt := 24) hx hb dX7_setTreaty_20 (by decide) ?_
          exact j_24  _ _ _ _ _  hv _ _ _ hE (lv_sub hl [0, 1, 2, 3] rfl)
def V_X7_sightings (x1 : Int32) (g : St) (post : Int32 → St → Prop) : Prop := V_X7_noPlayer x1 g (fun r2 g1 => ((r2 = 0 → vp_in x1 4 ∧ (post (g1.1 10 (Int32.toNatClampNeg x1)) g1)) ∧ (¬ r2 = 0 → post 0 g1)))
abbrev rm_X7_sightings : Room := { frames := 2, cells := 0, slots := 0, locals := 43 }
set_option maxHeartbeats 4000000 in
set_option maxRecDepth 100000 in
theorem c_X7_sightings (l : Launch) (D : va_G) (cs az a : Nat → Nat) (x1 : Int32) (g : St) (post : Int32 → St → Prop) (hv : V_X7_sightings x1 g post) : uMi l yX7_sightings wsX7_sightings rm_X7_sightings D cs az (mW cs a) [.ref (a 0), .int x1] g post := by
  refine u_ofI (cc := cX7_sightings) (maxL := 2) (by decide) rfl (Nat.le_of_ble_eq_true rfl) ?_
  intro p e s m args below meth c F ls hC hr hk hl hE
  have hx := hC.1.1; have hb := hC.1.2.1; have hml := hC.1.2.2.1; have hts := hC.1.2.2.2.2
  have hown : s.vm.findClass RX7 = some m.cls := hC.1.2.2.2.1
  have hl : lv_has ls 2 [(0, .ref (a 0)), (1, .int x1)] := hl
  unfold V_X7_sightings at hv
  refine lv_aload_n hx hb dX7_sightings_0 rfl (lv_at hl 0 rfl) ?_
  refine lv_iload_n hx hb dX7_sightings_1 rfl (lv_at hl 1 rfl) ?_
  refine G_callVi hC (c_X7_noPlayer l D cs az a x1 g _ hv) (cwV 1 hts gX7_sightings_X7_noPlayer rfl rfl rfl (by decide +kernel) ⟨Nat.le_of_ble_eq_true rfl, Nat.le_of_ble_eq_true rfl⟩) f_model rfl rfl hl rfl (Nat.le_of_ble_eq_true rfl) dX7_sightings_2 hE (fun r2 g1 H locs hv hE => ?_)
  refine lv_if_eq (tgt := 12) hx hb dX7_sightings_5 (by decide) (fun c => ?_) (fun c => ?_)
  · have hv := hv.1 c
    refine lv_aload_n hx hb dX7_sightings_12 rfl (lv_at hl 0 rfl) ?_
    refine G_get (v := .ref (a 10)) hC hE (fun _ h => List.mem_cons_of_mem _ (List.mem_append_left _ (List.mem_append_right _ h))) f_model rfl 9 (by decide) (hts (.fieldLink RX7 39 "SeedBattleModel" "size" "[I") (List.mem_of_getElem? (i := 1) rfl)) rfl dX7_sightings_13 ?_
    refine lv_iload_n hx hb dX7_sightings_16 rfl (lv_at hl 1 rfl) ?_
    refine G_iald hC hE f_m_size hv.1 dX7_sightings_17 ?_
    have hv := hv.2
    exact G_iret hC hr hk hE hv dX7_sightings_18
  · have hv := hv.2 c
    refine lv_iconst (v := 0) hx hb dX7_sightings_8 (by decide) ?_
    refine lv_goto (tgt := 18) hx hb dX7_sightings_9 (by decide) ?_
    exact G_iret hC hr hk hE hv dX7_sightings_18
def J_X7_sighting_60 (x1 : Int32) (x2 : Int32) (x3 : Int32) (post : Int32 → St → Prop)  (v1 : Int32) (v2 : Int32) (v3 : Int32) (t0 : Int32) (g : St) : Prop := V_X7_no t0 2 g (fun r4 g3 => ((r4 = 0 → vp_in ((61 * v1) + v2) 244 ∧ (((¬ v3 = 116 → ((¬ v3 = 99 → V_X7_unitIn (g3.1 9 (Int32.toNatClampNeg ((61 * v1) + v2))) (fun r5 => post r5 g3)) ∧ (v3 = 99 → V_X7_cellIn (g3.1 9 (Int32.toNatClampNeg ((61 * v1) + v2))) (fun r6 => post r6 g3)))) ∧ (v3 = 116 → V_X7_turnOf (g3.1 9 (Int32.toNatClampNeg ((61 * v1) + v2))) (fun r7 => post r7 g3))))) ∧ (¬ r4 = 0 → post 0 g3)))
def J_X7_sighting_55 (x1 : Int32) (x2 : Int32) (x3 : Int32) (post : Int32 → St → Prop)  (v1 : Int32) (v2 : Int32) (v3 : Int32) (g : St) : Prop := J_X7_sighting_60 x1 x2 x3 post v1 v2 v3 1 g
def J_X7_sighting_29 (x1 : Int32) (x2 : Int32) (x3 : Int32) (post : Int32 → St → Prop)  (v1 : Int32) (v2 : Int32) (v3 : Int32) (t0 : Int32) (g : St) : Prop := V_X7_no t0 1 g (fun r2 g1 => ((¬ r2 = 0 → post 0 g1) ∧ (r2 = 0 → ((v3 = 116 → J_X7_sighting_55 x1 x2 x3 post v1 v2 v3 g1) ∧ (¬ v3 = 116 → ((v3 = 99 → J_X7_sighting_55 x1 x2 x3 post v1 v2 v3 g1) ∧ (¬ v3 = 99 → ((¬ v3 = 117 → J_X7_sighting_60 x1 x2 x3 post v1 v2 v3 0 g1) ∧ (v3 = 117 → J_X7_sighting_55 x1 x2 x3 post v1 v2 v3 g1)))))))))
def J_X7_sighting_28 (x1 : Int32) (x2 : Int32) (x3 : Int32) (post : Int32 → St → Prop)  (v1 : Int32) (v2 : Int32) (v3 : Int32) (g : St) : Prop := J_X7_sighting_29 x1 x2 x3 post v1 v2 v3 0 g
def V_X7_sighting (x1 : Int32) (x2 : Int32) (x3 : Int32) (g : St) (post : Int32 → St → Prop) : Prop := ((x1 < 0 → J_X7_sighting_28 x1 x2 x3 post x1 x2 x3 g) ∧ (¬ x1 < 0 → ((4 ≤ x1 → J_X7_sighting_28 x1 x2 x3 post x1 x2 x3 g) ∧ (¬ 4 ≤ x1 → ((x2 < 0 → J_X7_sighting_28 x1 x2 x3 post x1 x2 x3 g) ∧ (¬ x2 < 0 → vp_in x1 4 ∧ ((((g.1 10 (Int32.toNatClampNeg x1)) ≤ x2 → J_X7_sighting_28 x1 x2 x3 post x1 x2 x3 g) ∧ (¬ (g.1 10 (Int32.toNatClampNeg x1)) ≤ x2 → J_X7_sighting_29 x1 x2 x3 post x1 x2 x3 1 g)))))))))
abbrev rm_X7_sighting : Room := { frames := 1, cells := 0, slots := 0, locals := 22 }
set_option maxHeartbeats 4000000 in
set_option maxRecDepth 100000 in
theorem c_X7_sighting (l : Launch) (D : va_G) (cs az a : Nat → Nat) (x1 : Int32) (x2 : Int32) (x3 : Int32) (g : St) (post : Int32 → St → Prop) (hv : V_X7_sighting x1 x2 x3 g post) : uMi l yX7_sighting wsX7_sighting rm_X7_sighting D cs az (mW cs a) [.ref (a 0), .int x1, .int x2, .int x3] g post := by
  refine u_ofI (cc := cX7_sighting) (maxL := 5) (by decide) rfl (Nat.le_of_ble_eq_true rfl) ?_
  intro p e s m args below meth c F ls hC hr hk hl hE
  have hx := hC.1.1; have hb := hC.1.2.1; have hml := hC.1.2.2.1; have hts := hC.1.2.2.2.2
  have hown : s.vm.findClass RX7 = some m.cls := hC.1.2.2.2.1
  have hl : lv_has ls 5 [(0, .ref (a 0)), (1, .int x1), (2, .int x2), (3, .int x3)] := hl
  unfold V_X7_sighting at hv
  have j_60 : ∀ (v1 : Int32) (v2 : Int32) (v3 : Int32) (t0 : Int32) (g : St), J_X7_sighting_60 x1 x2 x3 post v1 v2 v3 t0 g → ∀ (H : Heap) (locs : List Loc) (ls : Array Slot), uE D 16 mA (mO a) cs a F s g H locs → lv_has ls 5 [(0, .ref (a 0)), (1, .int v1), (2, .int v2), (3, .int v3)] → W p l e rm_X7_sighting s m args below meth c H locs 0 0 (MQ below (va_Qi post (uB D (uW 16 mA (mO a) cs a)) F) args s 0 0 F) (F0 m 60 ls [.int t0, .ref (a 0)]) := by
    intro  v1 v2 v3 t0 g  hv
    intro H locs ls hE hl
    unfold J_X7_sighting_60 at hv
    refine lv_iconst (v := 2) hx hb dX7_sighting_60 (by decide) ?_
    refine G_callVi hC (c_X7_no l D cs az a t0 2 g _ hv) (cwV 2 hts gX7_sighting_X7_no rfl rfl rfl (by decide +kernel) ⟨Nat.le_of_ble_eq_true rfl, Nat.le_of_ble_eq_true rfl⟩) f_model rfl rfl hl rfl (Nat.le_of_ble_eq_true rfl) dX7_sighting_61 hE (fun r4 g3 H locs hv hE => ?_)
    refine lv_if_eq (tgt := 69) hx hb dX7_sighting_64 (by decide) (fun c => ?_) (fun c => ?_)
    · have hv := hv.1 c
      refine lv_aload_n hx hb dX7_sighting_69 rfl (lv_at hl 0 rfl) ?_
      refine G_get (v := .ref (a 9)) hC hE (fun _ h => List.mem_cons_of_mem _ (List.mem_append_left _ (List.mem_append_right _ h))) f_model rfl 8 (by decide) (hts (.fieldLink RX7 36 "SeedBattleModel" "index" "[I") (List.mem_of_getElem? (i := 2) rfl)) rfl dX7_sighting_70 ?_
      refine lv_bipush (v := 61) hx hb dX7_sighting_73 (by decide) ?_
      refine lv_iload_n hx hb dX7_sighting_75 rfl (lv_at hl 1 rfl) ?_
      refine lv_imul hx hb dX7_sighting_76 ?_
      refine lv_iload_n hx hb dX7_sighting_77 rfl (lv_at hl 2 rfl) ?_
      refine lv_iadd hx hb dX7_sighting_78 ?_
      refine G_iald hC hE f_m_index hv.1 dX7_sighting_79 ?_
      have hv := hv.2
      refine lv_istore (lv' := [(4, .int (g3.1 9 (Int32.toNatClampNeg ((61 * v1) + v2)))), (0, .ref (a 0)), (1, .int v1), (2, .int v2), (3, .int v3)]) hx hb dX7_sighting_80 hl (by decide) rfl (fun ls hl => ?_)
      refine lv_iload_n hx hb dX7_sighting_82 rfl (lv_at hl 4 rfl) ?_
      refine lv_bipush (v := 116) hx hb dX7_sighting_83 (by decide) ?_
      refine lv_icmp_ne (tgt := 96) hx hb dX7_sighting_85 (by decide) (fun c => ?_) (fun c => ?_)
      · have hv := hv.1 c
        refine lv_iload_n hx hb dX7_sighting_96 rfl (lv_at hl 4 rfl) ?_
        refine lv_bipush (v := 99) hx hb dX7_sighting_97 (by decide) ?_
        refine lv_icmp_ne (tgt := 110) hx hb dX7_sighting_99 (by decide) (fun c => ?_) (fun c => ?_)
        · have hv := hv.1 c
          refine lv_iload hx hb dX7_sighting_110 (lv_at hl 0 rfl) ?_
          refine G_callSs hC.1 hC.2.2.2.2.1 (c_X7_unitIn l (g3.1 9 (Int32.toNatClampNeg ((61 * v1) + v2))) _ hv) (va_cwS 1 hts gX7_sighting_X7_unitIn rfl rfl rfl (by decide +kernel) ⟨Nat.le_of_ble_eq_true rfl, Nat.le_of_ble_eq_true rfl⟩) rfl hl rfl (Nat.le_of_ble_eq_true rfl) dX7_sighting_112 (Nat.zero_le _) (Nat.zero_le _) (fun r5 hv => ?_)
          exact G_iret hC hr hk hE hv dX7_sighting_115
        · have hv := hv.2 c
          refine lv_iload hx hb dX7_sighting_102 (lv_at hl 0 rfl) ?_
          refine G_callSs hC.1 hC.2.2.2.2.1 (c_X7_cellIn l (g3.1 9 (Int32.toNatClampNeg ((61 * v1) + v2))) _ hv) (va_cwS 1 hts gX7_sighting_X7_cellIn rfl rfl rfl (by decide +kernel) ⟨Nat.le_of_ble_eq_true rfl, Nat.le_of_ble_eq_true rfl⟩) rfl hl rfl (Nat.le_of_ble_eq_true rfl) dX7_sighting_104 (Nat.zero_le _) (Nat.zero_le _) (fun r6 hv => ?_)
          refine lv_goto (tgt := 115) hx hb dX7_sighting_107 (by decide) ?_
          exact G_iret hC hr hk hE hv dX7_sighting_115
      · have hv := hv.2 c
        refine lv_iload hx hb dX7_sighting_88 (lv_at hl 0 rfl) ?_
        refine G_callSs hC.1 hC.2.2.2.2.1 (c_X7_turnOf l (g3.1 9 (Int32.toNatClampNeg ((61 * v1) + v2))) _ hv) (va_cwS 1 hts gX7_sighting_X7_turnOf rfl rfl rfl (by decide +kernel) ⟨Nat.le_of_ble_eq_true rfl, Nat.le_of_ble_eq_true rfl⟩) rfl hl rfl (Nat.le_of_ble_eq_true rfl) dX7_sighting_90 (Nat.zero_le _) (Nat.zero_le _) (fun r7 hv => ?_)
        refine lv_goto (tgt := 115) hx hb dX7_sighting_93 (by decide) ?_
        exact G_iret hC hr hk hE hv dX7_sighting_115
    · have hv := hv.2 c
      refine lv_iconst (v := 0) hx hb dX7_sighting_67 (by decide) ?_
      exact G_iret hC hr hk hE hv dX7_sighting_68
  have j_55 : ∀ (v1 : Int32) (v2 : Int32) (v3 : Int32) (g : St), J_X7_sighting_55 x1 x2 x3 post v1 v2 v3 g → ∀ (H : Heap) (locs : List Loc) (ls : Array Slot), uE D 16 mA (mO a) cs a F s g H locs → lv_has ls 5 [(0, .ref (a 0)), (1, .int v1), (2, .int v2), (3, .int v3)] → W p l e rm_X7_sighting s m args below meth c H locs 0 0 (MQ below (va_Qi post (uB D (uW 16 mA (mO a) cs a)) F) args s 0 0 F) (F0 m 55 ls [.ref (a 0)]) := by
    intro  v1 v2 v3 g  hv
    intro H locs ls hE hl
    unfold J_X7_sighting_55 at hv
    refine lv_iconst (v := 1) hx hb dX7_sighting_55 (by decide) ?_
    refine lv_goto (tgt := 60) hx hb dX7_sighting_56 (by decide) ?_
    exact j_60  _ _ _ _ _  hv _ _ _ hE (lv_sub hl [0, 1, 2, 3] rfl)
  have j_29 : ∀ (v1 : Int32) (v2 : Int32) (v3 : Int32) (t0 : Int32) (g : St), J_X7_sighting_29 x1 x2 x3 post v1 v2 v3 t0 g → ∀ (H : Heap) (locs : List Loc) (ls : Array Slot), uE D 16 mA (mO a) cs a F s g H locs → lv_has ls 5 [(0, .ref (a 0)), (1, .int v1), (2, .int v2), (3, .int v3)] → W p l e rm_X7_sighting s m args below meth c H locs 0 0 (MQ below (va_Qi post (uB D (uW 16 mA (mO a) cs a)) F) args s 0 0 F) (F0 m 29 ls [.int t0, .ref (a 0)]) := by
    intro  v1 v2 v3 t0 g  hv
    intro H locs ls hE hl
    unfold J_X7_sighting_29 at hv
    refine lv_iconst (v := 1) hx hb dX7_sighting_29 (by decide) ?_
    refine G_callVi hC (c_X7_no l D cs az a t0 1 g _ hv) (cwV 2 hts gX7_sighting_X7_no rfl rfl rfl (by decide +kernel) ⟨Nat.le_of_ble_eq_true rfl, Nat.le_of_ble_eq_true rfl⟩) f_model rfl rfl hl rfl (Nat.le_of_ble_eq_true rfl) dX7_sighting_30 hE (fun r2 g1 H locs hv hE => ?_)
    refine lv_if_ne (tgt := 67) hx hb dX7_sighting_33 (by decide) (fun c => ?_) (fun c => ?_)
    · have hv := hv.1 c
      refine lv_iconst (v := 0) hx hb dX7_sighting_67 (by decide) ?_
      exact G_iret hC hr hk hE hv dX7_sighting_68
    · have hv := hv.2 c
      refine lv_aload_n hx hb dX7_sighting_36 rfl (lv_at hl 0 rfl) ?_
      refine lv_iload_n hx hb dX7_sighting_37 rfl (lv_at hl 3 rfl) ?_
      refine lv_bipush (v := 116) hx hb dX7_sighting_38 (by decide) ?_
      refine lv_icmp_eq (tgt := 55) hx hb dX7_sighting_40 (by decide) (fun c => ?_) (fun c => ?_)
      · have hv := hv.1 c
        exact j_55  _ _ _ _  hv _ _ _ hE (lv_sub hl [0, 1, 2, 3] rfl)
      · have hv := hv.2 c
        refine lv_iload_n hx hb dX7_sighting_43 rfl (lv_at hl 3 rfl) ?_
        refine lv_bipush (v := 99) hx hb dX7_sighting_44 (by decide) ?_
        refine lv_icmp_eq (tgt := 55) hx hb dX7_sighting_46 (by decide) (fun c => ?_) (fun c => ?_)
        · have hv := hv.1 c
          exact j_55  _ _ _ _  hv _ _ _ hE (lv_sub hl [0, 1, 2, 3] rfl)
        · have hv := hv.2 c
          refine lv_iload_n hx hb dX7_sighting_49 rfl (lv_at hl 3 rfl) ?_
          refine lv_bipush (v := 117) hx hb dX7_sighting_50 (by decide) ?_
          refine lv_icmp_ne (tgt := 59) hx hb dX7_sighting_52 (by decide) (fun c => ?_) (fun c => ?_)
          · have hv := hv.1 c
            refine lv_iconst (v := 0) hx hb dX7_sighting_59 (by decide) ?_
            exact j_60  _ _ _ _ _  hv _ _ _ hE (lv_sub hl [0, 1, 2, 3] rfl)
          · have hv := hv.2 c
            exact j_55  _ _ _ _  hv _ _ _ hE (lv_sub hl [0, 1, 2, 3] rfl)
  have j_28 : ∀ (v1 : Int32) (v2 : Int32) (v3 : Int32) (g : St), J_X7_sighting_28 x1 x2 x3 post v1 v2 v3 g → ∀ (H : Heap) (locs : List Loc) (ls : Array Slot), uE D 16 mA (mO a) cs a F s g H locs → lv_has ls 5 [(0, .ref (a 0)), (1, .int v1), (2, .int v2), (3, .int v3)] → W p l e rm_X7_sighting s m args below meth c H locs 0 0 (MQ below (va_Qi post (uB D (uW 16 mA (mO a) cs a)) F) args s 0 0 F) (F0 m 28 ls [.ref (a 0)]) := by
    intro  v1 v2 v3 g  hv
    intro H locs ls hE hl
    unfold J_X7_sighting_28 at hv
    refine lv_iconst (v := 0) hx hb dX7_sighting_28 (by decide) ?_
    exact j_29  _ _ _ _ _  hv _ _ _ hE (lv_sub hl [0, 1, 2, 3] rfl)
  refine lv_aload_n hx hb dX7_sighting_0 rfl (lv_at hl 0 rfl) ?_
  refine lv_iload_n hx hb dX7_sighting_1 rfl (lv_at hl 1 rfl) ?_
  refine lv_if_lt (tgt := 28) hx hb dX7_sighting_2 (by decide) (fun c => ?_) (fun c => ?_)
  · have hv := hv.1 c
    exact j_28  _ _ _ _  hv _ _ _ hE (lv_sub hl [0, 1, 2, 3] rfl)
  · have hv := hv.2 c
    refine lv_iload_n hx hb dX7_sighting_5 rfl (lv_at hl 1 rfl) ?_
    refine lv_iconst (v := 4) hx hb dX7_sighting_6 (by decide) ?_
    refine lv_icmp_ge (tgt := 28) hx hb dX7_sighting_7 (by decide) (fun c => ?_) (fun c => ?_)
    · have hv := hv.1 c
      exact j_28  _ _ _ _  hv _ _ _ hE (lv_sub hl [0, 1, 2, 3] rfl)
    · have hv := hv.2 c
      refine lv_iload_n hx hb dX7_sighting_10 rfl (lv_at hl 2 rfl) ?_
      refine lv_if_lt (tgt := 28) hx hb dX7_sighting_11 (by decide) (fun c => ?_) (fun c => ?_)
      · have hv := hv.1 c
        exact j_28  _ _ _ _  hv _ _ _ hE (lv_sub hl [0, 1, 2, 3] rfl)
      · have hv := hv.2 c
        refine lv_iload_n hx hb dX7_sighting_14 rfl (lv_at hl 2 rfl) ?_
        refine lv_aload_n hx hb dX7_sighting_15 rfl (lv_at hl 0 rfl) ?_
        refine G_get (v := .ref (a 10)) hC hE (fun _ h => List.mem_cons_of_mem _ (List.mem_append_left _ (List.mem_append_right _ h))) f_model rfl 9 (by decide) (hts (.fieldLink RX7 39 "SeedBattleModel" "size" "[I") (List.mem_of_getElem? (i := 1) rfl)) rfl dX7_sighting_16 ?_
        refine lv_iload_n hx hb dX7_sighting_19 rfl (lv_at hl 1 rfl) ?_
        refine G_iald hC hE f_m_size hv.1 dX7_sighting_20 ?_
        have hv := hv.2
        refine lv_icmp_ge (tgt := 28) hx hb dX7_sighting_21 (by decide) (fun c => ?_) (fun c => ?_)
        · have hv := hv.1 c
          exact j_28  _ _ _ _  hv _ _ _ hE (lv_sub hl [0, 1, 2, 3] rfl)
        · have hv := hv.2 c
          refine lv_iconst (v := 1) hx hb dX7_sighting_24 (by decide) ?_
          refine lv_goto (tgt := 29) hx hb dX7_sighting_25 (by decide) ?_
          exact j_29  _ _ _ _ _  hv _ _ _ hE (lv_sub hl [0, 1, 2, 3] rfl)
def J_X7_age_99 (x1 : Int32) (x2 : Int32) (post : Int32 → St → Prop)  (v3 : Int32) (t0 : Int32) (g : St) : Prop := V_X7_no t0 2 g (fun r7 g6 => ((r7 = 0 → post ((g6.2 3) - v3) g6) ∧ (¬ r7 = 0 → post 0 g6)))
def J_X7_age_82 (x1 : Int32) (x2 : Int32) (post : Int32 → St → Prop) (K36 : (Int32 × Int32 × Int32 × Int32 × St) → Prop) (v1 : Int32) (v2 : Int32) (v3 : Int32) (v4 : Int32) (g : St) : Prop := K36 (v1, v2, v3, (v4 + 1), g)
def J_X7_age_36 (x1 : Int32) (x2 : Int32) (post : Int32 → St → Prop) (K36 : (Int32 × Int32 × Int32 × Int32 × St) → Prop) (v1 : Int32) (v2 : Int32) (v3 : Int32) (v4 : Int32) (g : St) : Prop := vp_in v1 4 ∧ ((((g.1 10 (Int32.toNatClampNeg v1)) ≤ v4 → ((v3 = (-1) → J_X7_age_99 x1 x2 post v3 0 g) ∧ (¬ v3 = (-1) → J_X7_age_99 x1 x2 post v3 1 g))) ∧ (¬ (g.1 10 (Int32.toNatClampNeg v1)) ≤ v4 → vp_in ((61 * v1) + v4) 244 ∧ (V_X7_cellIn (g.1 9 (Int32.toNatClampNeg ((61 * v1) + v4))) (fun r4 => ((¬ r4 = v2 → J_X7_age_82 x1 x2 post K36 v1 v2 v3 v4 g) ∧ (r4 = v2 → vp_in ((61 * v1) + v4) 244 ∧ (V_X7_turnOf (g.1 9 (Int32.toNatClampNeg ((61 * v1) + v4))) (fun r5 => J_X7_age_82 x1 x2 post K36 v1 v2 r5 v4 g)))))))))
def J_X7_age_22 (x1 : Int32) (x2 : Int32) (post : Int32 → St → Prop)  (v1 : Int32) (v2 : Int32) (t0 : Int32) (g : St) : Prop := V_X7_no t0 1 g (fun r3 g2 => ((r3 = 0 → lpP (fun K36 (z : Int32 × Int32 × Int32 × Int32 × St) => J_X7_age_36 x1 x2 post K36 z.1 z.2.1 z.2.2.1 z.2.2.2.1 z.2.2.2.2) (v1, v2, (-1), 0, g2)) ∧ (¬ r3 = 0 → post 0 g2)))
def J_X7_age_21 (x1 : Int32) (x2 : Int32) (post : Int32 → St → Prop)  (v1 : Int32) (v2 : Int32) (g : St) : Prop := J_X7_age_22 x1 x2 post v1 v2 0 g
def V_X7_age (x1 : Int32) (x2 : Int32) (g : St) (post : Int32 → St → Prop) : Prop := ((x1 < 0 → J_X7_age_21 x1 x2 post x1 x2 g) ∧ (¬ x1 < 0 → ((4 ≤ x1 → J_X7_age_21 x1 x2 post x1 x2 g) ∧ (¬ 4 ≤ x1 → V_X7_isCell x2 (fun r1 => ((r1 = 0 → J_X7_age_21 x1 x2 post x1 x2 g) ∧ (¬ r1 = 0 → J_X7_age_22 x1 x2 post x1 x2 1 g)))))))
abbrev rm_X7_age : Room := { frames := 1, cells := 0, slots := 0, locals := 22 }
set_option maxHeartbeats 4000000 in
set_option maxRecDepth 100000 in
theorem c_X7_age (l : Launch) (D : va_G) (cs az a : Nat → Nat) (x1 : Int32) (x2 : Int32) (g : St) (post : Int32 → St → Prop) (hv : V_X7_age x1 x2 g post) : uMi l yX7_age wsX7_age rm_X7_age D cs az (mW cs a) [.ref (a 0), .int x1, .int x2] g post := by
  refine u_ofI (cc := cX7_age) (maxL := 5) (by decide) rfl (Nat.le_of_ble_eq_true rfl) ?_
  intro p e s m args below meth c F ls hC hr hk hl hE
  have hx := hC.1.1; have hb := hC.1.2.1; have hml := hC.1.2.2.1; have hts := hC.1.2.2.2.2
  have hown : s.vm.findClass RX7 = some m.cls := hC.1.2.2.2.1
  have hl : lv_has ls 5 [(0, .ref (a 0)), (1, .int x1), (2, .int x2)] := hl
  unfold V_X7_age at hv
  have j_99 : ∀ (v3 : Int32) (t0 : Int32) (g : St), J_X7_age_99 x1 x2 post v3 t0 g → ∀ (H : Heap) (locs : List Loc) (ls : Array Slot), uE D 16 mA (mO a) cs a F s g H locs → lv_has ls 5 [(0, .ref (a 0)), (3, .int v3)] → W p l e rm_X7_age s m args below meth c H locs 0 0 (MQ below (va_Qi post (uB D (uW 16 mA (mO a) cs a)) F) args s 0 0 F) (F0 m 99 ls [.int t0, .ref (a 0)]) := by
    intro  v3 t0 g  hv
    intro H locs ls hE hl
    unfold J_X7_age_99 at hv
    refine lv_iconst (v := 2) hx hb dX7_age_99 (by decide) ?_
    refine G_callVi hC (c_X7_no l D cs az a t0 2 g _ hv) (cwV 2 hts gX7_age_X7_no rfl rfl rfl (by decide +kernel) ⟨Nat.le_of_ble_eq_true rfl, Nat.le_of_ble_eq_true rfl⟩) f_model rfl rfl hl rfl (Nat.le_of_ble_eq_true rfl) dX7_age_100 hE (fun r7 g6 H locs hv hE => ?_)
    refine lv_if_eq (tgt := 110) hx hb dX7_age_103 (by decide) (fun c => ?_) (fun c => ?_)
    · have hv := hv.1 c
      refine lv_aload_n hx hb dX7_age_110 rfl (lv_at hl 0 rfl) ?_
      refine G_get (v := .int (g6.2 3)) hC hE (fun _ h => List.mem_cons_of_mem _ (List.mem_append_left _ (List.mem_append_right _ h))) f_model rfl 18 (by decide) (hts (.fieldLink RX7 84 "SeedBattleModel" "done" "I") (List.mem_of_getElem? (i := 3) rfl)) rfl dX7_age_111 ?_
      refine lv_iload_n hx hb dX7_age_114 rfl (lv_at hl 1 rfl) ?_
      refine lv_isub hx hb dX7_age_115 ?_
      exact G_iret hC hr hk hE hv dX7_age_116
    · have hv := hv.2 c
      refine lv_iconst (v := 0) hx hb dX7_age_106 (by decide) ?_
      refine lv_goto (tgt := 116) hx hb dX7_age_107 (by decide) ?_
      exact G_iret hC hr hk hE hv dX7_age_116
  have j_82 : ∀ (K36 : (Int32 × Int32 × Int32 × Int32 × St) → Prop), (∀ (v1 : Int32) (v2 : Int32) (v3 : Int32) (v4 : Int32) (g : St), K36 (v1, v2, v3, v4, g) → ∀ (H : Heap) (locs : List Loc) (ls : Array Slot), uE D 16 mA (mO a) cs a F s g H locs → lv_has ls 5 [(0, .ref (a 0)), (1, .int v1), (2, .int v2), (3, .int v3), (4, .int v4)] → W p l e rm_X7_age s m args below meth c H locs 0 0 (MQ below (va_Qi post (uB D (uW 16 mA (mO a) cs a)) F) args s 0 0 F) (F0 m 36 ls [])) → ∀ (v1 : Int32) (v2 : Int32) (v3 : Int32) (v4 : Int32) (g : St), J_X7_age_82 x1 x2 post K36 v1 v2 v3 v4 g → ∀ (H : Heap) (locs : List Loc) (ls : Array Slot), uE D 16 mA (mO a) cs a F s g H locs → lv_has ls 5 [(0, .ref (a 0)), (1, .int v1), (2, .int v2), (3, .int v3), (4, .int v4)] → W p l e rm_X7_age s m args below meth c H locs 0 0 (MQ below (va_Qi post (uB D (uW 16 mA (mO a) cs a)) F) args s 0 0 F) (F0 m 82 ls []) := by
    intro K36 hK36 v1 v2 v3 v4 g  hv
    intro H locs ls hE hl
    unfold J_X7_age_82 at hv
    refine lv_iinc (v := (v4 + 1)) (lv' := [(4, .int (v4 + 1)), (0, .ref (a 0)), (1, .int v1), (2, .int v2), (3, .int v3)]) hx hb dX7_age_82 hl (k := 4) rfl rfl (by decide) rfl (fun ls hl => ?_)
    refine lv_goto (tgt := 36) hx hb dX7_age_85 (by decide) ?_
    exact hK36 _ _ _ _ _  hv _ _ _ hE (lv_sub hl [1, 2, 3, 4, 0] rfl)
  have j_36 : ∀ (v1 : Int32) (v2 : Int32) (v3 : Int32) (v4 : Int32) (g : St), lpP (fun K36 (z : Int32 × Int32 × Int32 × Int32 × St) => J_X7_age_36 x1 x2 post K36 z.1 z.2.1 z.2.2.1 z.2.2.2.1 z.2.2.2.2) (v1, v2, v3, v4, g) → ∀ (H : Heap) (locs : List Loc) (ls : Array Slot), uE D 16 mA (mO a) cs a F s g H locs → lv_has ls 5 [(0, .ref (a 0)), (1, .int v1), (2, .int v2), (3, .int v3), (4, .int v4)] → W p l e rm_X7_age s m args below meth c H locs 0 0 (MQ below (va_Qi post (uB D (uW 16 mA (mO a) cs a)) F) args s 0 0 F) (F0 m 36 ls []) := by
    intro  v1 v2 v3 v4 g  hv
    obtain ⟨nn, hv⟩ := hv
    induction nn generalizing v1 v2 v3 v4 g with
    | zero => exact False.elim hv
    | succ nn hK36 =>
      intro H locs ls hE hl
      have hv : J_X7_age_36 x1 x2 post (itP _ nn) v1 v2 v3 v4 g := hv
      unfold J_X7_age_36 at hv
      refine lv_iload hx hb dX7_age_36 (lv_at hl 4 rfl) ?_
      refine lv_aload_n hx hb dX7_age_38 rfl (lv_at hl 0 rfl) ?_
      refine G_get (v := .ref (a 10)) hC hE (fun _ h => List.mem_cons_of_mem _ (List.mem_append_left _ (List.mem_append_right _ h))) f_model rfl 9 (by decide) (hts (.fieldLink RX7 39 "SeedBattleModel" "size" "[I") (List.mem_of_getElem? (i := 1) rfl)) rfl dX7_age_39 ?_
      refine lv_iload_n hx hb dX7_age_42 rfl (lv_at hl 1 rfl) ?_
      refine G_iald hC hE f_m_size hv.1 dX7_age_43 ?_
      have hv := hv.2
      refine lv_icmp_ge (tgt := 88) hx hb dX7_age_44 (by decide) (fun c => ?_) (fun c => ?_)
      · have hv := hv.1 c
        refine lv_aload_n hx hb dX7_age_88 rfl (lv_at hl 0 rfl) ?_
        refine lv_iload_n hx hb dX7_age_89 rfl (lv_at hl 3 rfl) ?_
        refine lv_iconst (v := (-1)) hx hb dX7_age_90 (by decide) ?_
        refine lv_icmp_eq (tgt := 98) hx hb dX7_age_91 (by decide) (fun c => ?_) (fun c => ?_)
        · have hv := hv.1 c
          refine lv_iconst (v := 0) hx hb dX7_age_98 (by decide) ?_
          exact j_99  _ _ _  hv _ _ _ hE (lv_sub hl [0, 3] rfl)
        · have hv := hv.2 c
          refine lv_iconst (v := 1) hx hb dX7_age_94 (by decide) ?_
          refine lv_goto (tgt := 99) hx hb dX7_age_95 (by decide) ?_
          exact j_99  _ _ _  hv _ _ _ hE (lv_sub hl [0, 3] rfl)
      · have hv := hv.2 c
        refine lv_aload_n hx hb dX7_age_47 rfl (lv_at hl 0 rfl) ?_
        refine G_get (v := .ref (a 9)) hC hE (fun _ h => List.mem_cons_of_mem _ (List.mem_append_left _ (List.mem_append_right _ h))) f_model rfl 8 (by decide) (hts (.fieldLink RX7 36 "SeedBattleModel" "index" "[I") (List.mem_of_getElem? (i := 2) rfl)) rfl dX7_age_48 ?_
        refine lv_bipush (v := 61) hx hb dX7_age_51 (by decide) ?_
        refine lv_iload_n hx hb dX7_age_53 rfl (lv_at hl 1 rfl) ?_
        refine lv_imul hx hb dX7_age_54 ?_
        refine lv_iload hx hb dX7_age_55 (lv_at hl 4 rfl) ?_
        refine lv_iadd hx hb dX7_age_57 ?_
        refine G_iald hC hE f_m_index hv.1 dX7_age_58 ?_
        have hv := hv.2
        refine G_callSs hC.1 hC.2.2.2.2.1 (c_X7_cellIn l (g.1 9 (Int32.toNatClampNeg ((61 * v1) + v4))) _ hv) (va_cwS 1 hts gX7_age_X7_cellIn rfl rfl rfl (by decide +kernel) ⟨Nat.le_of_ble_eq_true rfl, Nat.le_of_ble_eq_true rfl⟩) rfl hl rfl (Nat.le_of_ble_eq_true rfl) dX7_age_59 (Nat.zero_le _) (Nat.zero_le _) (fun r4 hv => ?_)
        refine lv_iload_n hx hb dX7_age_62 rfl (lv_at hl 2 rfl) ?_
        refine lv_icmp_ne (tgt := 82) hx hb dX7_age_63 (by decide) (fun c => ?_) (fun c => ?_)
        · have hv := hv.1 c
          exact j_82 _ hK36 _ _ _ _ _  hv _ _ _ hE (lv_sub hl [0, 1, 2, 3, 4] rfl)
        · have hv := hv.2 c
          refine lv_aload_n hx hb dX7_age_66 rfl (lv_at hl 0 rfl) ?_
          refine G_get (v := .ref (a 9)) hC hE (fun _ h => List.mem_cons_of_mem _ (List.mem_append_left _ (List.mem_append_right _ h))) f_model rfl 8 (by decide) (hts (.fieldLink RX7 36 "SeedBattleModel" "index" "[I") (List.mem_of_getElem? (i := 2) rfl)) rfl dX7_age_67 ?_
          refine lv_bipush (v := 61) hx hb dX7_age_70 (by decide) ?_
          refine lv_iload_n hx hb dX7_age_72 rfl (lv_at hl 1 rfl) ?_
          refine lv_imul hx hb dX7_age_73 ?_
          refine lv_iload hx hb dX7_age_74 (lv_at hl 4 rfl) ?_
          refine lv_iadd hx hb dX7_age_76 ?_
          refine G_iald hC hE f_m_index hv.1 dX7_age_77 ?_
          have hv := hv.2
          refine G_callSs hC.1 hC.2.2.2.2.1 (c_X7_turnOf l (g.1 9 (Int32.toNatClampNeg ((61 * v1) + v4))) _ hv) (va_cwS 1 hts gX7_age_X7_turnOf rfl rfl rfl (by decide +kernel) ⟨Nat.le_of_ble_eq_true rfl, Nat.le_of_ble_eq_true rfl⟩) rfl hl rfl (Nat.le_of_ble_eq_true rfl) dX7_age_78 (Nat.zero_le _) (Nat.zero_le _) (fun r5 hv => ?_)
          refine lv_istore_n (lv' := [(3, .int r5), (0, .ref (a 0)), (1, .int v1), (2, .int v2), (4, .int v4)]) hx hb dX7_age_81 rfl hl (by decide) rfl (fun ls hl => ?_)
          exact j_82 _ hK36 _ _ _ _ _  hv _ _ _ hE (lv_sub hl [1, 2, 3, 0, 4] rfl)
  have j_22 : ∀ (v1 : Int32) (v2 : Int32) (t0 : Int32) (g : St), J_X7_age_22 x1 x2 post v1 v2 t0 g → ∀ (H : Heap) (locs : List Loc) (ls : Array Slot), uE D 16 mA (mO a) cs a F s g H locs → lv_has ls 5 [(0, .ref (a 0)), (1, .int v1), (2, .int v2)] → W p l e rm_X7_age s m args below meth c H locs 0 0 (MQ below (va_Qi post (uB D (uW 16 mA (mO a) cs a)) F) args s 0 0 F) (F0 m 22 ls [.int t0, .ref (a 0)]) := by
    intro  v1 v2 t0 g  hv
    intro H locs ls hE hl
    unfold J_X7_age_22 at hv
    refine lv_iconst (v := 1) hx hb dX7_age_22 (by decide) ?_
    refine G_callVi hC (c_X7_no l D cs az a t0 1 g _ hv) (cwV 2 hts gX7_age_X7_no rfl rfl rfl (by decide +kernel) ⟨Nat.le_of_ble_eq_true rfl, Nat.le_of_ble_eq_true rfl⟩) f_model rfl rfl hl rfl (Nat.le_of_ble_eq_true rfl) dX7_age_23 hE (fun r3 g2 H locs hv hE => ?_)
    refine lv_if_eq (tgt := 31) hx hb dX7_age_26 (by decide) (fun c => ?_) (fun c => ?_)
    · have hv := hv.1 c
      refine lv_iconst (v := (-1)) hx hb dX7_age_31 (by decide) ?_
      refine lv_istore_n (lv' := [(3, .int (-1)), (0, .ref (a 0)), (1, .int v1), (2, .int v2)]) hx hb dX7_age_32 rfl hl (by decide) rfl (fun ls hl => ?_)
      refine lv_iconst (v := 0) hx hb dX7_age_33 (by decide) ?_
      refine lv_istore (lv' := [(4, .int 0), (3, .int (-1)), (0, .ref (a 0)), (1, .int v1), (2, .int v2)]) hx hb dX7_age_34 hl (by decide) rfl (fun ls hl => ?_)
      exact j_36  _ _ _ _ _  hv _ _ _ hE (lv_sub hl [2, 3, 4, 1, 0] rfl)
    · have hv := hv.2 c
      refine lv_iconst (v := 0) hx hb dX7_age_29 (by decide) ?_
      exact G_iret hC hr hk hE hv dX7_age_30
  have j_21 : ∀ (v1 : Int32) (v2 : Int32) (g : St), J_X7_age_21 x1 x2 post v1 v2 g → ∀ (H : Heap) (locs : List Loc) (ls : Array Slot), uE D 16 mA (mO a) cs a F s g H locs → lv_has ls 5 [(0, .ref (a 0)), (1, .int v1), (2, .int v2)] → W p l e rm_X7_age s m args below meth c H locs 0 0 (MQ below (va_Qi post (uB D (uW 16 mA (mO a) cs a)) F) args s 0 0 F) (F0 m 21 ls [.ref (a 0)]) := by
    intro  v1 v2 g  hv
    intro H locs ls hE hl
    unfold J_X7_age_21 at hv
    refine lv_iconst (v := 0) hx hb dX7_age_21 (by decide) ?_
    exact j_22  _ _ _ _  hv _ _ _ hE (lv_sub hl [0, 1, 2] rfl)
  refine lv_aload_n hx hb dX7_age_0 rfl (lv_at hl 0 rfl) ?_
  refine lv_iload_n hx hb dX7_age_1 rfl (lv_at hl 1 rfl) ?_
  refine lv_if_lt (tgt := 21) hx hb dX7_age_2 (by decide) (fun c => ?_) (fun c => ?_)
  · have hv := hv.1 c
    exact j_21  _ _ _  hv _ _ _ hE (lv_sub hl [0, 1, 2] rfl)
  · have hv := hv.2 c
    refine lv_iload_n hx hb dX7_age_5 rfl (lv_at hl 1 rfl) ?_
    refine lv_iconst (v := 4) hx hb dX7_age_6 (by decide) ?_
    refine lv_icmp_ge (tgt := 21) hx hb dX7_age_7 (by decide) (fun c => ?_) (fun c => ?_)
    · have hv := hv.1 c
      exact j_21  _ _ _  hv _ _ _ hE (lv_sub hl [0, 1, 2] rfl)
    · have hv := hv.2 c
      refine lv_iload_n hx hb dX7_age_10 rfl (lv_at hl 2 rfl) ?_
      refine G_callSs hC.1 hC.2.2.2.2.1 (c_X7_isCell l x2 _ hv) (va_cwS 1 hts gX7_age_X7_isCell rfl rfl rfl (by decide +kernel) ⟨Nat.le_of_ble_eq_true rfl, Nat.le_of_ble_eq_true rfl⟩) rfl hl rfl (Nat.le_of_ble_eq_true rfl) dX7_age_11 (Nat.zero_le _) (Nat.zero_le _) (fun r1 hv => ?_)
      refine lv_if_eq (tgt := 21) hx hb dX7_age_14 (by decide) (fun c => ?_) (fun c => ?_)
      · have hv := hv.1 c
        exact j_21  _ _ _  hv _ _ _ hE (lv_sub hl [0, 1, 2] rfl)
      · have hv := hv.2 c
        refine lv_iconst (v := 1) hx hb dX7_age_17 (by decide) ?_
        refine lv_goto (tgt := 22) hx hb dX7_age_18 (by decide) ?_
        exact j_22  _ _ _ _  hv _ _ _ hE (lv_sub hl [0, 1, 2] rfl)
def J_X7_lastSeen_104 (x1 : Int32) (x2 : Int32) (post : Int32 → St → Prop)  (v3 : Int32) (t0 : Int32) (g : St) : Prop := V_X7_no t0 2 g (fun r6 g5 => ((r6 = 0 → post v3 g5) ∧ (¬ r6 = 0 → post 0 g5)))
def J_X7_lastSeen_87 (x1 : Int32) (x2 : Int32) (post : Int32 → St → Prop) (K41 : (Int32 × Int32 × Int32 × Int32 × St) → Prop) (v1 : Int32) (v2 : Int32) (v3 : Int32) (v4 : Int32) (g : St) : Prop := K41 (v1, v2, v3, (v4 + 1), g)
def J_X7_lastSeen_41 (x1 : Int32) (x2 : Int32) (post : Int32 → St → Prop) (K41 : (Int32 × Int32 × Int32 × Int32 × St) → Prop) (v1 : Int32) (v2 : Int32) (v3 : Int32) (v4 : Int32) (g : St) : Prop := vp_in v1 4 ∧ ((((g.1 10 (Int32.toNatClampNeg v1)) ≤ v4 → ((v3 = (-1) → J_X7_lastSeen_104 x1 x2 post v3 0 g) ∧ (¬ v3 = (-1) → J_X7_lastSeen_104 x1 x2 post v3 1 g))) ∧ (¬ (g.1 10 (Int32.toNatClampNeg v1)) ≤ v4 → vp_in ((61 * v1) + v4) 244 ∧ (V_X7_unitIn (g.1 9 (Int32.toNatClampNeg ((61 * v1) + v4))) (fun r3 => ((¬ r3 = v2 → J_X7_lastSeen_87 x1 x2 post K41 v1 v2 v3 v4 g) ∧ (r3 = v2 → vp_in ((61 * v1) + v4) 244 ∧ (V_X7_cellIn (g.1 9 (Int32.toNatClampNeg ((61 * v1) + v4))) (fun r4 => J_X7_lastSeen_87 x1 x2 post K41 v1 v2 r4 v4 g)))))))))
def J_X7_lastSeen_27 (x1 : Int32) (x2 : Int32) (post : Int32 → St → Prop)  (v1 : Int32) (v2 : Int32) (t0 : Int32) (g : St) : Prop := V_X7_no t0 1 g (fun r2 g1 => ((r2 = 0 → lpP (fun K41 (z : Int32 × Int32 × Int32 × Int32 × St) => J_X7_lastSeen_41 x1 x2 post K41 z.1 z.2.1 z.2.2.1 z.2.2.2.1 z.2.2.2.2) (v1, v2, (-1), 0, g1)) ∧ (¬ r2 = 0 → post 0 g1)))
def J_X7_lastSeen_26 (x1 : Int32) (x2 : Int32) (post : Int32 → St → Prop)  (v1 : Int32) (v2 : Int32) (g : St) : Prop := J_X7_lastSeen_27 x1 x2 post v1 v2 0 g
def V_X7_lastSeen (x1 : Int32) (x2 : Int32) (g : St) (post : Int32 → St → Prop) : Prop := ((x1 < 0 → J_X7_lastSeen_26 x1 x2 post x1 x2 g) ∧ (¬ x1 < 0 → ((4 ≤ x1 → J_X7_lastSeen_26 x1 x2 post x1 x2 g) ∧ (¬ 4 ≤ x1 → ((x2 < 0 → J_X7_lastSeen_26 x1 x2 post x1 x2 g) ∧ (¬ x2 < 0 → (((g.2 2) ≤ x2 → J_X7_lastSeen_26 x1 x2 post x1 x2 g) ∧ (¬ (g.2 2) ≤ x2 → J_X7_lastSeen_27 x1 x2 post x1 x2 1 g))))))))
abbrev rm_X7_lastSeen : Room := { frames := 1, cells := 0, slots := 0, locals := 22 }
set_option maxHeartbeats 4000000 in
set_option maxRecDepth 100000 in
theorem c_X7_lastSeen (l : Launch) (D : va_G) (cs az a : Nat → Nat) (x1 : Int32) (x2 : Int32) (g : St) (post : Int32 → St → Prop) (hv : V_X7_lastSeen x1 x2 g post) : uMi l yX7_lastSeen wsX7_lastSeen rm_X7_lastSeen D cs az (mW cs a) [.ref (a 0), .int x1, .int x2] g post := by
  refine u_ofI (cc := cX7_lastSeen) (maxL := 5) (by decide) rfl (Nat.le_of_ble_eq_true rfl) ?_
  intro p e s m args below meth c F ls hC hr hk hl hE
  have hx := hC.1.1; have hb := hC.1.2.1; have hml := hC.1.2.2.1; have hts := hC.1.2.2.2.2
  have hown : s.vm.findClass RX7 = some m.cls := hC.1.2.2.2.1
  have hl : lv_has ls 5 [(0, .ref (a 0)), (1, .int x1), (2, .int x2)] := hl
  unfold V_X7_lastSeen at hv
  have j_104 : ∀ (v3 : Int32) (t0 : Int32) (g : St), J_X7_lastSeen_104 x1 x2 post v3 t0 g → ∀ (H : Heap) (locs : List Loc) (ls : Array Slot), uE D 16 mA (mO a) cs a F s g H locs → lv_has ls 5 [(3, .int v3)] → W p l e rm_X7_lastSeen s m args below meth c H locs 0 0 (MQ below (va_Qi post (uB D (uW 16 mA (mO a) cs a)) F) args s 0 0 F) (F0 m 104 ls [.int t0, .ref (a 0)]) := by
    intro  v3 t0 g  hv
    intro H locs ls hE hl
    unfold J_X7_lastSeen_104 at hv
    refine lv_iconst (v := 2) hx hb dX7_lastSeen_104 (by decide) ?_
    refine G_callVi hC (c_X7_no l D cs az a t0 2 g _ hv) (cwV 2 hts gX7_lastSeen_X7_no rfl rfl rfl (by decide +kernel) ⟨Nat.le_of_ble_eq_true rfl, Nat.le_of_ble_eq_true rfl⟩) f_model rfl rfl hl rfl (Nat.le_of_ble_eq_true rfl) dX7_lastSeen_105 hE (fun r6 g5 H locs hv hE => ?_)
    refine lv_if_eq (tgt := 115) hx hb dX7_lastSeen_108 (by decide) (fun c => ?_) (fun c => ?_)
    · have hv := hv.1 c
      refine lv_iload_n hx hb dX7_lastSeen_115 rfl (lv_at hl 0 rfl) ?_
      exact G_iret hC hr hk hE hv dX7_lastSeen_116
    · have hv := hv.2 c
      refine lv_iconst (v := 0) hx hb dX7_lastSeen_111 (by decide) ?_
      refine lv_goto (tgt := 116) hx hb dX7_lastSeen_112 (by decide) ?_
      exact G_iret hC hr hk hE hv dX7_lastSeen_116
  have j_87 : ∀ (K41 : (Int32 × Int32 × Int32 × Int32 × St) → Prop), (∀ (v1 : Int32) (v2 : Int32) (v3 : Int32) (v4 : Int32) (g : St), K41 (v1, v2, v3, v4, g) → ∀ (H : Heap) (locs : List Loc) (ls : Array Slot), uE D 16 mA (mO a) cs a F s g H locs → lv_has ls 5 [(0, .ref (a 0)), (1, .int v1), (2, .int v2), (3, .int v3), (4, .int v4)] → W p l e rm_X7_lastSeen s m args below meth c H locs 0 0 (MQ below (va_Qi post (uB D (uW 16 mA (mO a) cs a)) F) args s 0 0 F) (F0 m 41 ls [])) → ∀ (v1 : Int32) (v2 : Int32) (v3 : Int32) (v4 : Int32) (g : St), J_X7_lastSeen_87 x1 x2 post K41 v1 v2 v3 v4 g → ∀ (H : Heap) (locs : List Loc) (ls : Array Slot), uE D 16 mA (mO a) cs a F s g H locs → lv_has ls 5 [(0, .ref (a 0)), (1, .int v1), (2, .int v2), (3, .int v3), (4, .int v4)] → W p l e rm_X7_lastSeen s m args below meth c H locs 0 0 (MQ below (va_Qi post (uB D (uW 16 mA (mO a) cs a)) F) args s 0 0 F) (F0 m 87 ls []) := by
    intro K41 hK41 v1 v2 v3 v4 g  hv
    intro H locs ls hE hl
    unfold J_X7_lastSeen_87 at hv
    refine lv_iinc (v := (v4 + 1)) (lv' := [(4, .int (v4 + 1)), (0, .ref (a 0)), (1, .int v1), (2, .int v2), (3, .int v3)]) hx hb dX7_lastSeen_87 hl (k := 4) rfl rfl (by decide) rfl (fun ls hl => ?_)
    refine lv_goto (tgt := 41) hx hb dX7_lastSeen_90 (by decide) ?_
    exact hK41 _ _ _ _ _  hv _ _ _ hE (lv_sub hl [1, 2, 3, 4, 0] rfl)
  have j_41 : ∀ (v1 : Int32) (v2 : Int32) (v3 : Int32) (v4 : Int32) (g : St), lpP (fun K41 (z : Int32 × Int32 × Int32 × Int32 × St) => J_X7_lastSeen_41 x1 x2 post K41 z.1 z.2.1 z.2.2.1 z.2.2.2.1 z.2.2.2.2) (v1, v2, v3, v4, g) → ∀ (H : Heap) (locs : List Loc) (ls : Array Slot), uE D 16 mA (mO a) cs a F s g H locs → lv_has ls 5 [(0, .ref (a 0)), (1, .int v1), (2, .int v2), (3, .int v3), (4, .int v4)] → W p l e rm_X7_lastSeen s m args below meth c H locs 0 0 (MQ below (va_Qi post (uB D (uW 16 mA (mO a) cs a)) F) args s 0 0 F) (F0 m 41 ls []) := by
    intro  v1 v2 v3 v4 g  hv
    obtain ⟨nn, hv⟩ := hv
    induction nn generalizing v1 v2 v3 v4 g with
    | zero => exact False.elim hv
    | succ nn hK41 =>
      intro H locs ls hE hl
      have hv : J_X7_lastSeen_41 x1 x2 post (itP _ nn) v1 v2 v3 v4 g := hv
      unfold J_X7_lastSeen_41 at hv
      refine lv_iload hx hb dX7_lastSeen_41 (lv_at hl 4 rfl) ?_
      refine lv_aload_n hx hb dX7_lastSeen_43 rfl (lv_at hl 0 rfl) ?_
      refine G_get (v := .ref (a 10)) hC hE (fun _ h => List.mem_cons_of_mem _ (List.mem_append_left _ (List.mem_append_right _ h))) f_model rfl 9 (by decide) (hts (.fieldLink RX7 39 "SeedBattleModel" "size" "[I") (List.mem_of_getElem? (i := 2) rfl)) rfl dX7_lastSeen_44 ?_
      refine lv_iload_n hx hb dX7_lastSeen_47 rfl (lv_at hl 1 rfl) ?_
      refine G_iald hC hE f_m_size hv.1 dX7_lastSeen_48 ?_
      have hv := hv.2
      refine lv_icmp_ge (tgt := 93) hx hb dX7_lastSeen_49 (by decide) (fun c => ?_) (fun c => ?_)
      · have hv := hv.1 c
        refine lv_aload_n hx hb dX7_lastSeen_93 rfl (lv_at hl 0 rfl) ?_
        refine lv_iload_n hx hb dX7_lastSeen_94 rfl (lv_at hl 3 rfl) ?_
        refine lv_iconst (v := (-1)) hx hb dX7_lastSeen_95 (by decide) ?_
        refine lv_icmp_eq (tgt := 103) hx hb dX7_lastSeen_96 (by decide) (fun c => ?_) (fun c => ?_)
        · have hv := hv.1 c
          refine lv_iconst (v := 0) hx hb dX7_lastSeen_103 (by decide) ?_
          exact j_104  _ _ _  hv _ _ _ hE (lv_sub hl [3] rfl)
        · have hv := hv.2 c
          refine lv_iconst (v := 1) hx hb dX7_lastSeen_99 (by decide) ?_
          refine lv_goto (tgt := 104) hx hb dX7_lastSeen_100 (by decide) ?_
          exact j_104  _ _ _  hv _ _ _ hE (lv_sub hl [3] rfl)
      · have hv := hv.2 c
        refine lv_aload_n hx hb dX7_lastSeen_52 rfl (lv_at hl 0 rfl) ?_
        refine G_get (v := .ref (a 9)) hC hE (fun _ h => List.mem_cons_of_mem _ (List.mem_append_left _ (List.mem_append_right _ h))) f_model rfl 8 (by decide) (hts (.fieldLink RX7 36 "SeedBattleModel" "index" "[I") (List.mem_of_getElem? (i := 3) rfl)) rfl dX7_lastSeen_53 ?_
        refine lv_bipush (v := 61) hx hb dX7_lastSeen_56 (by decide) ?_
        refine lv_iload_n hx hb dX7_lastSeen_58 rfl (lv_at hl 1 rfl) ?_
        refine lv_imul hx hb dX7_lastSeen_59 ?_
        refine lv_iload hx hb dX7_lastSeen_60 (lv_at hl 4 rfl) ?_
        refine lv_iadd hx hb dX7_lastSeen_62 ?_
        refine G_iald hC hE f_m_index hv.1 dX7_lastSeen_63 ?_
        have hv := hv.2
        refine G_callSs hC.1 hC.2.2.2.2.1 (c_X7_unitIn l (g.1 9 (Int32.toNatClampNeg ((61 * v1) + v4))) _ hv) (va_cwS 1 hts gX7_lastSeen_X7_unitIn rfl rfl rfl (by decide +kernel) ⟨Nat.le_of_ble_eq_true rfl, Nat.le_of_ble_eq_true rfl⟩) rfl hl rfl (Nat.le_of_ble_eq_true rfl) dX7_lastSeen_64 (Nat.zero_le _) (Nat.zero_le _) (fun r3 hv => ?_)
        refine lv_iload_n hx hb dX7_lastSeen_67 rfl (lv_at hl 2 rfl) ?_
        refine lv_icmp_ne (tgt := 87) hx hb dX7_lastSeen_68 (by decide) (fun c => ?_) (fun c => ?_)
        · have hv := hv.1 c
          exact j_87 _ hK41 _ _ _ _ _  hv _ _ _ hE (lv_sub hl [0, 1, 2, 3, 4] rfl)
        · have hv := hv.2 c
          refine lv_aload_n hx hb dX7_lastSeen_71 rfl (lv_at hl 0 rfl) ?_
          refine G_get (v := .ref (a 9)) hC hE (fun _ h => List.mem_cons_of_mem _ (List.mem_append_left _ (List.mem_append_right _ h))) f_model rfl 8 (by decide) (hts (.fieldLink RX7 36 "SeedBattleModel" "index" "[I") (List.mem_of_getElem? (i := 3) rfl)) rfl dX7_lastSeen_72 ?_
          refine lv_bipush (v := 61) hx hb dX7_lastSeen_75 (by decide) ?_
          refine lv_iload_n hx hb dX7_lastSeen_77 rfl (lv_at hl 1 rfl) ?_
          refine lv_imul hx hb dX7_lastSeen_78 ?_
          refine lv_iload hx hb dX7_lastSeen_79 (lv_at hl 4 rfl) ?_
          refine lv_iadd hx hb dX7_lastSeen_81 ?_
          refine G_iald hC hE f_m_index hv.1 dX7_lastSeen_82 ?_
          have hv := hv.2
          refine G_callSs hC.1 hC.2.2.2.2.1 (c_X7_cellIn l (g.1 9 (Int32.toNatClampNeg ((61 * v1) + v4))) _ hv) (va_cwS 1 hts gX7_lastSeen_X7_cellIn rfl rfl rfl (by decide +kernel) ⟨Nat.le_of_ble_eq_true rfl, Nat.le_of_ble_eq_true rfl⟩) rfl hl rfl (Nat.le_of_ble_eq_true rfl) dX7_lastSeen_83 (Nat.zero_le _) (Nat.zero_le _) (fun r4 hv => ?_)
          refine lv_istore_n (lv' := [(3, .int r4), (0, .ref (a 0)), (1, .int v1), (2, .int v2), (4, .int v4)]) hx hb dX7_lastSeen_86 rfl hl (by decide) rfl (fun ls hl => ?_)
          exact j_87 _ hK41 _ _ _ _ _  hv _ _ _ hE (lv_sub hl [1, 2, 3, 0, 4] rfl)
  have j_27 : ∀ (v1 : Int32) (v2 : Int32) (t0 : Int32) (g : St), J_X7_lastSeen_27 x1 x2 post v1 v2 t0 g → ∀ (H : Heap) (locs : List Loc) (ls : Array Slot), uE D 16 mA (mO a) cs a F s g H locs → lv_has ls 5 [(0, .ref (a 0)), (1, .int v1), (2, .int v2)] → W p l e rm_X7_lastSeen s m args below meth c H locs 0 0 (MQ below (va_Qi post (uB D (uW 16 mA (mO a) cs a)) F) args s 0 0 F) (F0 m 27 ls [.int t0, .ref (a 0)]) := by
    intro  v1 v2 t0 g  hv
    intro H locs ls hE hl
    unfold J_X7_lastSeen_27 at hv
    refine lv_iconst (v := 1) hx hb dX7_lastSeen_27 (by decide) ?_
    refine G_callVi hC (c_X7_no l D cs az a t0 1 g _ hv) (cwV 2 hts gX7_lastSeen_X7_no rfl rfl rfl (by decide +kernel) ⟨Nat.le_of_ble_eq_true rfl, Nat.le_of_ble_eq_true rfl⟩) f_model rfl rfl hl rfl (Nat.le_of_ble_eq_true rfl) dX7_lastSeen_28 hE (fun r2 g1 H locs hv hE => ?_)
    refine lv_if_eq (tgt := 36) hx hb dX7_lastSeen_31 (by decide) (fun c => ?_) (fun c => ?_)
    · have hv := hv.1 c
      refine lv_iconst (v := (-1)) hx hb dX7_lastSeen_36 (by decide) ?_
      refine lv_istore_n (lv' := [(3, .int (-1)), (0, .ref (a 0)), (1, .int v1), (2, .int v2)]) hx hb dX7_lastSeen_37 rfl hl (by decide) rfl (fun ls hl => ?_)
      refine lv_iconst (v := 0) hx hb dX7_lastSeen_38 (by decide) ?_
      refine lv_istore (lv' := [(4, .int 0), (3, .int (-1)), (0, .ref (a 0)), (1, .int v1), (2, .int v2)]) hx hb dX7_lastSeen_39 hl (by decide) rfl (fun ls hl => ?_)
      exact j_41  _ _ _ _ _  hv _ _ _ hE (lv_sub hl [2, 3, 4, 1, 0] rfl)
    · have hv := hv.2 c
      refine lv_iconst (v := 0) hx hb dX7_lastSeen_34 (by decide) ?_
      exact G_iret hC hr hk hE hv dX7_lastSeen_35
  have j_26 : ∀ (v1 : Int32) (v2 : Int32) (g : St), J_X7_lastSeen_26 x1 x2 post v1 v2 g → ∀ (H : Heap) (locs : List Loc) (ls : Array Slot), uE D 16 mA (mO a) cs a F s g H locs → lv_has ls 5 [(0, .ref (a 0)), (1, .int v1), (2, .int v2)] → W p l e rm_X7_lastSeen s m args below meth c H locs 0 0 (MQ below (va_Qi post (uB D (uW 16 mA (mO a) cs a)) F) args s 0 0 F) (F0 m 26 ls [.ref (a 0)]) := by
    intro  v1 v2 g  hv
    intro H locs ls hE hl
    unfold J_X7_lastSeen_26 at hv
    refine lv_iconst (v := 0) hx hb dX7_lastSeen_26 (by decide) ?_
    exact j_27  _ _ _ _  hv _ _ _ hE (lv_sub hl [0, 1, 2] rfl)
  refine lv_aload_n hx hb dX7_lastSeen_0 rfl (lv_at hl 0 rfl) ?_
  refine lv_iload_n hx hb dX7_lastSeen_1 rfl (lv_at hl 1 rfl) ?_
  refine lv_if_lt (tgt := 26) hx hb dX7_lastSeen_2 (by decide) (fun c => ?_) (fun c => ?_)
  · have hv := hv.1 c
    exact j_26  _ _ _  hv _ _ _ hE (lv_sub hl [0, 1, 2] rfl)
  · have hv := hv.2 c
    refine lv_iload_n hx hb dX7_lastSeen_5 rfl (lv_at hl 1 rfl) ?_
    refine lv_iconst (v := 4) hx hb dX7_lastSeen_6 (by decide) ?_
    refine lv_icmp_ge (tgt := 26) hx hb dX7_lastSeen_7 (by decide) (fun c => ?_) (fun c => ?_)
    · have hv := hv.1 c
      exact j_26  _ _ _  hv _ _ _ hE (lv_sub hl [0, 1, 2] rfl)
    · have hv := hv.2 c
      refine lv_iload_n hx hb dX7_lastSeen_10 rfl (lv_at hl 2 rfl) ?_
      refine lv_if_lt (tgt := 26) hx hb dX7_lastSeen_11 (by decide) (fun c => ?_) (fun c => ?_)
      · have hv := hv.1 c
        exact j_26  _ _ _  hv _ _ _ hE (lv_sub hl [0, 1, 2] rfl)
      · have hv := hv.2 c
        refine lv_iload_n hx hb dX7_lastSeen_14 rfl (lv_at hl 2 rfl) ?_
        refine lv_aload_n hx hb dX7_lastSeen_15 rfl (lv_at hl 0 rfl) ?_
        refine G_get (v := .int (g.2 2)) hC hE (fun _ h => List.mem_cons_of_mem _ (List.mem_append_left _ (List.mem_append_right _ h))) f_model rfl 17 (by decide) (hts (.fieldLink RX7 65 "SeedBattleModel" "units" "I") (List.mem_of_getElem? (i := 1) rfl)) rfl dX7_lastSeen_16 ?_
        refine lv_icmp_ge (tgt := 26) hx hb dX7_lastSeen_19 (by decide) (fun c => ?_) (fun c => ?_)
        · have hv := hv.1 c
          exact j_26  _ _ _  hv _ _ _ hE (lv_sub hl [0, 1, 2] rfl)
        · have hv := hv.2 c
          refine lv_iconst (v := 1) hx hb dX7_lastSeen_22 (by decide) ?_
          refine lv_goto (tgt := 27) hx hb dX7_lastSeen_23 (by decide) ?_
          exact j_27  _ _ _ _  hv _ _ _ hE (lv_sub hl [0, 1, 2] rfl)
def J_X7_save_90  (post : Int32 → St → Prop) (K90 : (Int32 × Int32 × St) → Prop) (v1 : Int32) (v2 : Int32) (g : St) : Prop := ((4 ≤ v2 → post v1 g) ∧ (¬ 4 ≤ v2 → vp_in v2 4 ∧ (vp_in v2 4 ∧ (vp_in v2 4 ∧ (K90 ((v1 + ((sA g 12 (upd (g.1 12) (Int32.toNatClampNeg v2) (g.1 10 (Int32.toNatClampNeg v2)))).1 10 (Int32.toNatClampNeg v2))), (v2 + 1), (sA g 12 (upd (g.1 12) (Int32.toNatClampNeg v2) (g.1 10 (Int32.toNatClampNeg v2))))))))))
def J_X7_save_57  (post : Int32 → St → Prop) (K57 : (Int32 × Int32 × St) → Prop) (v1 : Int32) (v2 : Int32) (g : St) : Prop := ((16 ≤ v2 → lpP (fun K90 (z : Int32 × Int32 × St) => J_X7_save_90 post K90 z.1 z.2.1 z.2.2) (v1, 0, g)) ∧ (¬ 16 ≤ v2 → vp_in v2 16 ∧ (vp_in v2 16 ∧ (vp_in v2 16 ∧ (K57 (v1, (v2 + 1), (sA (sA g 14 (upd (g.1 14) (Int32.toNatClampNeg v2) (vp_nar .boolean (g.1 8 (Int32.toNatClampNeg v2))))) 15 (upd ((sA g 14 (upd (g.1 14) (Int32.toNatClampNeg v2) (vp_nar .boolean (g.1 8 (Int32.toNatClampNeg v2))))).1 15) (Int32.toNatClampNeg v2) (vp_nar .boolean 0)))))))))
def J_X7_save_36  (post : Int32 → St → Prop) (K36 : (Int32 × Int32 × St) → Prop) (v1 : Int32) (v2 : Int32) (g : St) : Prop := ((64 ≤ v2 → lpP (fun K57 (z : Int32 × Int32 × St) => J_X7_save_57 post K57 z.1 z.2.1 z.2.2) (v1, 0, g)) ∧ (¬ 64 ≤ v2 → vp_in v2 64 ∧ (K36 (v1, (v2 + 1), (sA g 13 (upd (g.1 13) (Int32.toNatClampNeg v2) (vp_nar .boolean 0)))))))
def J_X7_save_9  (post : Int32 → St → Prop) (K9 : (Int32 × Int32 × St) → Prop) (v1 : Int32) (v2 : Int32) (g : St) : Prop := ((244 ≤ v2 → lpP (fun K36 (z : Int32 × Int32 × St) => J_X7_save_36 post K36 z.1 z.2.1 z.2.2) (v1, 0, g)) ∧ (¬ 244 ≤ v2 → vp_in v2 244 ∧ (vp_in v2 244 ∧ (K9 (v1, (v2 + 1), (sA g 11 (upd (g.1 11) (Int32.toNatClampNeg v2) (g.1 9 (Int32.toNatClampNeg v2)))))))))
def V_X7_save  (g : St) (post : Int32 → St → Prop) : Prop := lpP (fun K9 (z : Int32 × Int32 × St) => J_X7_save_9 post K9 z.1 z.2.1 z.2.2) (0, 0, (sS g 4 1))
abbrev rm_X7_save : Room := { frames := 0, cells := 0, slots := 0, locals := 0 }
set_option maxHeartbeats 4000000 in
set_option maxRecDepth 100000 in
theorem c_X7_save (l : Launch) (D : va_G) (cs az a : Nat → Nat)  (g : St) (post : Int32 → St → Prop) (hv : V_X7_save  g post) : uMi l yX7_save wsX7_save rm_X7_save D cs az (mW cs a) [.ref (a 0)] g post := by
  refine u_ofI (cc := cX7_save) (maxL := 3) (by decide) rfl (Nat.le_of_ble_eq_true rfl) ?_
  intro p e s m args below meth c F ls hC hr hk hl hE
  have hx := hC.1.1; have hb := hC.1.2.1; have hml := hC.1.2.2.1; have hts := hC.1.2.2.2.2
  have hown : s.vm.findClass RX7 = some m.cls := hC.1.2.2.2.1
  have hl : lv_has ls 3 [(0, .ref (a 0))] := hl
  unfold V_X7_save at hv
  have j_90 : ∀ (v1 : Int32) (v2 : Int32) (g : St), lpP (fun K90 (z : Int32 × Int32 × St) => J_X7_save_90 post K90 z.1 z.2.1 z.2.2) (v1, v2, g) → ∀ (H : Heap) (locs : List Loc) (ls : Array Slot), uE D 16 mA (mO a) cs a F s g H locs → lv_has ls 3 [(0, .ref (a 0)), (1, .int v1), (2, .int v2)] → W p l e rm_X7_save s m args below meth c H locs 0 0 (MQ below (va_Qi post (uB D (uW 16 mA (mO a) cs a)) F) args s 0 0 F) (F0 m 90 ls []) := by
    intro  v1 v2 g  hv
    obtain ⟨nn, hv⟩ := hv
    induction nn generalizing v1 v2 g with
    | zero => exact False.elim hv
    | succ nn hK90 =>
      intro H locs ls hE hl
      have hv : J_X7_save_90 post (itP _ nn) v1 v2 g := hv
      unfold J_X7_save_90 at hv
      refine lv_iload_n hx hb dX7_save_90 rfl (lv_at hl 2 rfl) ?_
      refine lv_iconst (v := 4) hx hb dX7_save_91 (by decide) ?_
      refine lv_icmp_ge (tgt := 122) hx hb dX7_save_92 (by decide) (fun c => ?_) (fun c => ?_)
      · have hv := hv.1 c
        refine lv_iload_n hx hb dX7_save_122 rfl (lv_at hl 1 rfl) ?_
        exact G_iret hC hr hk hE hv dX7_save_123
      · have hv := hv.2 c
        refine lv_aload_n hx hb dX7_save_95 rfl (lv_at hl 0 rfl) ?_
        refine G_get (v := .ref (a 12)) hC hE (fun _ h => List.mem_cons_of_mem _ (List.mem_append_left _ (List.mem_append_right _ h))) f_model rfl 11 (by decide) (hts (.fieldLink RX7 45 "SeedBattleModel" "savedSize" "[I") (List.mem_of_getElem? (i := 8) rfl)) rfl dX7_save_96 ?_
        refine lv_iload_n hx hb dX7_save_99 rfl (lv_at hl 2 rfl) ?_
        refine lv_aload_n hx hb dX7_save_100 rfl (lv_at hl 0 rfl) ?_
        refine G_get (v := .ref (a 10)) hC hE (fun _ h => List.mem_cons_of_mem _ (List.mem_append_left _ (List.mem_append_right _ h))) f_model rfl 9 (by decide) (hts (.fieldLink RX7 39 "SeedBattleModel" "size" "[I") (List.mem_of_getElem? (i := 9) rfl)) rfl dX7_save_101 ?_
        refine lv_iload_n hx hb dX7_save_104 rfl (lv_at hl 2 rfl) ?_
        refine G_iald hC hE f_m_size hv.1 dX7_save_105 ?_
        have hv := hv.2
        refine G_iast hC hE f_m_savedSize hv.1 dX7_save_106 (fun H locs hE => ?_)
        have hv := hv.2
        refine lv_iload_n hx hb dX7_save_107 rfl (lv_at hl 1 rfl) ?_
        refine lv_aload_n hx hb dX7_save_108 rfl (lv_at hl 0 rfl) ?_
        refine G_get (v := .ref (a 10)) hC hE (fun _ h => List.mem_cons_of_mem _ (List.mem_append_left _ (List.mem_append_right _ h))) f_model rfl 9 (by decide) (hts (.fieldLink RX7 39 "SeedBattleModel" "size" "[I") (List.mem_of_getElem? (i := 9) rfl)) rfl dX7_save_109 ?_
        refine lv_iload_n hx hb dX7_save_112 rfl (lv_at hl 2 rfl) ?_
        refine G_iald hC hE f_m_size hv.1 dX7_save_113 ?_
        have hv := hv.2
        refine lv_iadd hx hb dX7_save_114 ?_
        refine lv_istore_n (lv' := [(1, .int (v1 + ((sA g 12 (upd (g.1 12) (Int32.toNatClampNeg v2) (g.1 10 (Int32.toNatClampNeg v2)))).1 10 (Int32.toNatClampNeg v2)))), (0, .ref (a 0)), (2, .int v2)]) hx hb dX7_save_115 rfl hl (by decide) rfl (fun ls hl => ?_)
        refine lv_iinc (v := (v2 + 1)) (lv' := [(2, .int (v2 + 1)), (1, .int (v1 + ((sA g 12 (upd (g.1 12) (Int32.toNatClampNeg v2) (g.1 10 (Int32.toNatClampNeg v2)))).1 10 (Int32.toNatClampNeg v2)))), (0, .ref (a 0))]) hx hb dX7_save_116 hl (k := 2) rfl rfl (by decide) rfl (fun ls hl => ?_)
        refine lv_goto (tgt := 90) hx hb dX7_save_119 (by decide) ?_
        exact hK90 _ _ _  hv _ _ _ hE (lv_sub hl [2, 1, 0] rfl)
  have j_57 : ∀ (v1 : Int32) (v2 : Int32) (g : St), lpP (fun K57 (z : Int32 × Int32 × St) => J_X7_save_57 post K57 z.1 z.2.1 z.2.2) (v1, v2, g) → ∀ (H : Heap) (locs : List Loc) (ls : Array Slot), uE D 16 mA (mO a) cs a F s g H locs → lv_has ls 3 [(0, .ref (a 0)), (1, .int v1), (2, .int v2)] → W p l e rm_X7_save s m args below meth c H locs 0 0 (MQ below (va_Qi post (uB D (uW 16 mA (mO a) cs a)) F) args s 0 0 F) (F0 m 57 ls []) := by
    intro  v1 v2 g  hv
    obtain ⟨nn, hv⟩ := hv
    induction nn generalizing v1 v2 g with
    | zero => exact False.elim hv
    | succ nn hK57 =>
      intro H locs ls hE hl
      have hv : J_X7_save_57 post (itP _ nn) v1 v2 g := hv
      unfold J_X7_save_57 at hv
      refine lv_iload_n hx hb dX7_save_57 rfl (lv_at hl 2 rfl) ?_
      refine lv_bipush (v := 16) hx hb dX7_save_58 (by decide) ?_
      refine lv_icmp_ge (tgt := 88) hx hb dX7_save_60 (by decide) (fun c => ?_) (fun c => ?_)
      · have hv := hv.1 c
        refine lv_iconst (v := 0) hx hb dX7_save_88 (by decide) ?_
        refine lv_istore_n (lv' := [(2, .int 0), (0, .ref (a 0)), (1, .int v1)]) hx hb dX7_save_89 rfl hl (by decide) rfl (fun ls hl => ?_)
        exact j_90  _ _ _  hv _ _ _ hE (lv_sub hl [1, 2, 0] rfl)
      · have hv := hv.2 c
        refine lv_aload_n hx hb dX7_save_63 rfl (lv_at hl 0 rfl) ?_
        refine G_get (v := .ref (a 14)) hC hE (fun _ h => List.mem_cons_of_mem _ (List.mem_append_left _ (List.mem_append_right _ h))) f_model rfl 13 (by decide) (hts (.fieldLink RX7 51 "SeedBattleModel" "ally" "[Z") (List.mem_of_getElem? (i := 5) rfl)) rfl dX7_save_64 ?_
        refine lv_iload_n hx hb dX7_save_67 rfl (lv_at hl 2 rfl) ?_
        refine lv_aload_n hx hb dX7_save_68 rfl (lv_at hl 0 rfl) ?_
        refine G_get (v := .ref (a 8)) hC hE (fun _ h => List.mem_cons_of_mem _ (List.mem_append_left _ (List.mem_append_right _ h))) f_model rfl 7 (by decide) (hts (.fieldLink RX7 32 "SeedBattleModel" "treaty" "[Z") (List.mem_of_getElem? (i := 6) rfl)) rfl dX7_save_69 ?_
        refine lv_iload_n hx hb dX7_save_72 rfl (lv_at hl 2 rfl) ?_
        refine G_zald hC hE f_m_treaty hv.1 dX7_save_73 ?_
        have hv := hv.2
        refine G_zast hC hE f_m_ally hv.1 dX7_save_74 (fun H locs hE => ?_)
        have hv := hv.2
        refine lv_aload_n hx hb dX7_save_75 rfl (lv_at hl 0 rfl) ?_
        refine G_get (v := .ref (a 15)) hC hE (fun _ h => List.mem_cons_of_mem _ (List.mem_append_left _ (List.mem_append_right _ h))) f_model rfl 14 (by decide) (hts (.fieldLink RX7 54 "SeedBattleModel" "ended" "[Z") (List.mem_of_getElem? (i := 7) rfl)) rfl dX7_save_76 ?_
        refine lv_iload_n hx hb dX7_save_79 rfl (lv_at hl 2 rfl) ?_
        refine lv_iconst (v := 0) hx hb dX7_save_80 (by decide) ?_
        refine G_zast hC hE f_m_ended hv.1 dX7_save_81 (fun H locs hE => ?_)
        have hv := hv.2
        refine lv_iinc (v := (v2 + 1)) (lv' := [(2, .int (v2 + 1)), (0, .ref (a 0)), (1, .int v1)]) hx hb dX7_save_82 hl (k := 2) rfl rfl (by decide) rfl (fun ls hl => ?_)
        refine lv_goto (tgt := 57) hx hb dX7_save_85 (by decide) ?_
        exact hK57 _ _ _  hv _ _ _ hE (lv_sub hl [1, 2, 0] rfl)
  have j_36 : ∀ (v1 : Int32) (v2 : Int32) (g : St), lpP (fun K36 (z : Int32 × Int32 × St) => J_X7_save_36 post K36 z.1 z.2.1 z.2.2) (v1, v2, g) → ∀ (H : Heap) (locs : List Loc) (ls : Array Slot), uE D 16 mA (mO a) cs a F s g H locs → lv_has ls 3 [(0, .ref (a 0)), (1, .int v1), (2, .int v2)] → W p l e rm_X7_save s m args below meth c H locs 0 0 (MQ below (va_Qi post (uB D (uW 16 mA (mO a) cs a)) F) args s 0 0 F) (F0 m 36 ls []) := by
    intro  v1 v2 g  hv
    obtain ⟨nn, hv⟩ := hv
    induction nn generalizing v1 v2 g with
    | zero => exact False.elim hv
    | succ nn hK36 =>
      intro H locs ls hE hl
      have hv : J_X7_save_36 post (itP _ nn) v1 v2 g := hv
      unfold J_X7_save_36 at hv
      refine lv_iload_n hx hb dX7_save_36 rfl (lv_at hl 2 rfl) ?_
      refine lv_bipush (v := 64) hx hb dX7_save_37 (by decide) ?_
      refine lv_icmp_ge (tgt := 55) hx hb dX7_save_39 (by decide) (fun c => ?_) (fun c => ?_)
      · have hv := hv.1 c
        refine lv_iconst (v := 0) hx hb dX7_save_55 (by decide) ?_
        refine lv_istore_n (lv' := [(2, .int 0), (0, .ref (a 0)), (1, .int v1)]) hx hb dX7_save_56 rfl hl (by decide) rfl (fun ls hl => ?_)
        exact j_57  _ _ _  hv _ _ _ hE (lv_sub hl [1, 2, 0] rfl)
      · have hv := hv.2 c
        refine lv_aload_n hx hb dX7_save_42 rfl (lv_at hl 0 rfl) ?_
        refine G_get (v := .ref (a 13)) hC hE (fun _ h => List.mem_cons_of_mem _ (List.mem_append_left _ (List.mem_append_right _ h))) f_model rfl 12 (by decide) (hts (.fieldLink RX7 48 "SeedBattleModel" "broken" "[Z") (List.mem_of_getElem? (i := 4) rfl)) rfl dX7_save_43 ?_
        refine lv_iload_n hx hb dX7_save_46 rfl (lv_at hl 2 rfl) ?_
        refine lv_iconst (v := 0) hx hb dX7_save_47 (by decide) ?_
        refine G_zast hC hE f_m_broken hv.1 dX7_save_48 (fun H locs hE => ?_)
        have hv := hv.2
        refine lv_iinc (v := (v2 + 1)) (lv' := [(2, .int (v2 + 1)), (0, .ref (a 0)), (1, .int v1)]) hx hb dX7_save_49 hl (k := 2) rfl rfl (by decide) rfl (fun ls hl => ?_)
        refine lv_goto (tgt := 36) hx hb dX7_save_52 (by decide) ?_
        exact hK36 _ _ _  hv _ _ _ hE (lv_sub hl [1, 2, 0] rfl)
  have j_9 : ∀ (v1 : Int32) (v2 : Int32) (g : St), lpP (fun K9 (z : Int32 × Int32 × St) => J_X7_save_9 post K9 z.1 z.2.1 z.2.2) (v1, v2, g) → ∀ (H : Heap) (locs : List Loc) (ls : Array Slot), uE D 16 mA (mO a) cs a F s g H locs → lv_has ls 3 [(0, .ref (a 0)), (1, .int v1), (2, .int v2)] → W p l e rm_X7_save s m args below meth c H locs 0 0 (MQ below (va_Qi post (uB D (uW 16 mA (mO a) cs a)) F) args s 0 0 F) (F0 m 9 ls []) := by
    intro  v1 v2 g  hv
    obtain ⟨nn, hv⟩ := hv
    induction nn generalizing v1 v2 g with
    | zero => exact False.elim hv
    | succ nn hK9 =>
      intro H locs ls hE hl
      have hv : J_X7_save_9 post (itP _ nn) v1 v2 g := hv
      unfold J_X7_save_9 at hv
      refine lv_iload_n hx hb dX7_save_9 rfl (lv_at hl 2 rfl) ?_
      refine lv_sipush (v := 244) hx hb dX7_save_10 (by decide) ?_
      refine lv_icmp_ge (tgt := 34) hx hb dX7_save_13 (by decide) (fun c => ?_) (fun c => ?_)
      · have hv := hv.1 c
        refine lv_iconst (v := 0) hx hb dX7_save_34 (by decide) ?_
        refine lv_istore_n (lv' := [(2, .int 0), (0, .ref (a 0)), (1, .int v1)]) hx hb dX7_save_35 rfl hl (by decide) rfl (fun ls hl => ?_)
        exact j_36  _ _ _  hv _ _ _ hE (lv_sub hl [1, 2, 0] rfl)
      · have hv := hv.2 c
        refine lv_aload_n hx hb dX7_save_16 rfl (lv_at hl 0 rfl) ?_
        refine G_get (v := .ref (a 11)) hC hE (fun _ h => List.mem_cons_of_mem _ (List.mem_append_left _ (List.mem_append_right _ h))) f_model rfl 10 (by decide) (hts (.fieldLink RX7 42 "SeedBattleModel" "saved" "[I") (List.mem_of_getElem? (i := 2) rfl)) rfl dX7_save_17 ?_
        refine lv_iload_n hx hb dX7_save_20 rfl (lv_at hl 2 rfl) ?_
        refine lv_aload_n hx hb dX7_save_21 rfl (lv_at hl 0 rfl) ?_
        refine G_get (v := .ref (a 9)) hC hE (fun _ h => List.mem_cons_of_mem _ (List.mem_append_left _ (List.mem_append_right _ h))) f_model rfl 8 (by decide) (hts (.fieldLink RX7 36 "SeedBattleModel" "index" "[I") (List.mem_of_getElem? (i := 3) rfl)) rfl dX7_save_22 ?_
        refine lv_iload_n hx hb dX7_save_25 rfl (lv_at hl 2 rfl) ?_
        refine G_iald hC hE f_m_index hv.1 dX7_save_26 ?_
        have hv := hv.2
        refine G_iast hC hE f_m_saved hv.1 dX7_save_27 (fun H locs hE => ?_)
        have hv := hv.2
        refine lv_iinc (v := (v2 + 1)) (lv' := [(2, .int (v2 + 1)), (0, .ref (a 0)), (1, .int v1)]) hx hb dX7_save_28 hl (k := 2) rfl rfl (by decide) rfl (fun ls hl => ?_)
        refine lv_goto (tgt := 9) hx hb dX7_save_31 (by decide) ?_
        exact hK9 _ _ _  hv _ _ _ hE (lv_sub hl [1, 2, 0] rfl)
  refine lv_iconst (v := 0) hx hb dX7_save_0 (by decide) ?_
  refine lv_istore_n (lv' := [(1, .int 0), (0, .ref (a 0))]) hx hb dX7_save_1 rfl hl (by decide) rfl (fun ls hl => ?_)
  refine lv_aload_n hx hb dX7_save_2 rfl (lv_at hl 1 rfl) ?_
  refine lv_iconst (v := 1) hx hb dX7_save_3 (by decide) ?_
  refine G_put (v := 1) (ty := .boolean) hC hE (fun _ h => List.mem_cons_of_mem _ (List.mem_append_left _ (List.mem_append_right _ h))) tyX7 tyX7_ok nmX7 f_model rfl 19 4 (by decide) (hts (.fieldLink RX7 174 "SeedBattleModel" "isSaved" "Z") (List.mem_of_getElem? (i := 1) rfl)) rfl (by decide +kernel) rfl rfl (Nat.le_of_ble_eq_true rfl) (p_model_isSaved_e) (p_model_isSaved_o) dX7_save_4 (fun H locs hE => ?_)
  refine lv_iconst (v := 0) hx hb dX7_save_7 (by decide) ?_
  refine lv_istore_n (lv' := [(2, .int 0), (1, .int 0), (0, .ref (a 0))]) hx hb dX7_save_8 rfl hl (by decide) rfl (fun ls hl => ?_)
  exact j_9  _ _ _  hv _ _ _ hE (lv_sub hl [2, 1, 0] rfl)
def V_X7_blocksOf (x1 : Int32) (g : St) (post : Int32 → St → Prop) : Prop := vp_in x1 4 ∧ (post (((g.1 12 (Int32.toNatClampNeg x1)) + 3) / 4) g)
abbrev rm_X7_blocksOf : Room := { frames := 0, cells := 0, slots := 0, locals := 0 }
set_option maxHeartbeats 4000000 in
set_option maxRecDepth 100000 in
theorem c_X7_blocksOf (l : Launch) (D : va_G) (cs az a : Nat → Nat) (x1 : Int32) (g : St) (post : Int32 → St → Prop) (hv : V_X7_blocksOf x1 g post) : uMi l yX7_blocksOf wsX7_blocksOf rm_X7_blocksOf D cs az (mW cs a) [.ref (a 0), .int x1] g post := by
  refine u_ofI (cc := cX7_blocksOf) (maxL := 2) (by decide) rfl (Nat.le_of_ble_eq_true rfl) ?_
  intro p e s m args below meth c F ls hC hr hk hl hE
  have hx := hC.1.1; have hb := hC.1.2.1; have hml := hC.1.2.2.1; have hts := hC.1.2.2.2.2
  have hown : s.vm.findClass RX7 = some m.cls := hC.1.2.2.2.1
  have hl : lv_has ls 2 [(0, .ref (a 0)), (1, .int x1)] := hl
  unfold V_X7_blocksOf at hv
  refine lv_aload_n hx hb dX7_blocksOf_0 rfl (lv_at hl 0 rfl) ?_
  refine G_get (v := .ref (a 12)) hC hE (fun _ h => List.mem_cons_of_mem _ (List.mem_append_left _ (List.mem_append_right _ h))) f_model rfl 11 (by decide) (hts (.fieldLink RX7 45 "SeedBattleModel" "savedSize" "[I") (List.mem_of_getElem? (i := 1) rfl)) rfl dX7_blocksOf_1 ?_
  refine lv_iload_n hx hb dX7_blocksOf_4 rfl (lv_at hl 1 rfl) ?_
  refine G_iald hC hE f_m_savedSize hv.1 dX7_blocksOf_5 ?_
  have hv := hv.2
  refine lv_iconst (v := 3) hx hb dX7_blocksOf_6 (by decide) ?_
  refine lv_iadd hx hb dX7_blocksOf_7 ?_
  refine lv_iconst (v := 4) hx hb dX7_blocksOf_8 (by decide) ?_
  refine lv_idiv hx hb dX7_blocksOf_9 (by decide) ?_
  exact G_iret hC hr hk hE hv dX7_blocksOf_10
def V_X7_noSave (x1 : Int32) (g : St) (post : Int32 → St → Prop) : Prop := V_X7_noPlayer x1 g (fun r2 g1 => ((¬ r2 = 0 → post 1 g1) ∧ (r2 = 0 → V_X7_no (g1.2 4) 2 g1 (fun r4 g3 => ((r4 = 0 → post 0 g3) ∧ (¬ r4 = 0 → post 1 g3))))))
abbrev rm_X7_noSave : Room := { frames := 2, cells := 0, slots := 0, locals := 43 }
set_option maxHeartbeats 4000000 in
set_option maxRecDepth 100000 in
theorem c_X7_noSave (l : Launch) (D : va_G) (cs az a : Nat → Nat) (x1 : Int32) (g : St) (post : Int32 → St → Prop) (hv : V_X7_noSave x1 g post) : uMi l yX7_noSave wsX7_noSave rm_X7_noSave D cs az (mW cs a) [.ref (a 0), .int x1] g post := by
  refine u_ofI (cc := cX7_noSave) (maxL := 2) (by decide) rfl (Nat.le_of_ble_eq_true rfl) ?_
  intro p e s m args below meth c F ls hC hr hk hl hE
  have hx := hC.1.1; have hb := hC.1.2.1; have hml := hC.1.2.2.1; have hts := hC.1.2.2.2.2
  have hown : s.vm.findClass RX7 = some m.cls := hC.1.2.2.2.1
  have hl : lv_has ls 2 [(0, .ref (a 0)), (1, .int x1)] := hl
  unfold V_X7_noSave at hv
  refine lv_aload_n hx hb dX7_noSave_0 rfl (lv_at hl 0 rfl) ?_
  refine lv_iload_n hx hb dX7_noSave_1 rfl (lv_at hl 1 rfl) ?_
  refine G_callVi hC (c_X7_noPlayer l D cs az a x1 g _ hv) (cwV 1 hts gX7_noSave_X7_noPlayer rfl rfl rfl (by decide +kernel) ⟨Nat.le_of_ble_eq_true rfl, Nat.le_of_ble_eq_true rfl⟩) f_model rfl rfl hl rfl (Nat.le_of_ble_eq_true rfl) dX7_noSave_2 hE (fun r2 g1 H locs hv hE => ?_)
  refine lv_if_ne (tgt := 20) hx hb dX7_noSave_5 (by decide) (fun c => ?_) (fun c => ?_)
  · have hv := hv.1 c
    refine lv_iconst (v := 1) hx hb dX7_noSave_20 (by decide) ?_
    refine lv_goto (tgt := 25) hx hb dX7_noSave_21 (by decide) ?_
    exact G_zret hC hr hk hE rfl hv dX7_noSave_25
  · have hv := hv.2 c
    refine lv_aload_n hx hb dX7_noSave_8 rfl (lv_at hl 0 rfl) ?_
    refine lv_aload_n hx hb dX7_noSave_9 rfl (lv_at hl 0 rfl) ?_
    refine G_get (v := .int (g1.2 4)) hC hE (fun _ h => List.mem_cons_of_mem _ (List.mem_append_right _ h)) f_model rfl 19 (by decide) (hts (.fieldLink RX7 174 "SeedBattleModel" "isSaved" "Z") (List.mem_of_getElem? (i := 1) rfl)) rfl dX7_noSave_10 ?_
    refine lv_iconst (v := 2) hx hb dX7_noSave_13 (by decide) ?_
    refine G_callVi hC (c_X7_no l D cs az a (g1.2 4) 2 g1 _ hv) (cwV 2 hts gX7_noSave_X7_no rfl rfl rfl (by decide +kernel) ⟨Nat.le_of_ble_eq_true rfl, Nat.le_of_ble_eq_true rfl⟩) f_model rfl rfl hl rfl (Nat.le_of_ble_eq_true rfl) dX7_noSave_14 hE (fun r4 g3 H locs hv hE => ?_)
    refine lv_if_eq (tgt := 24) hx hb dX7_noSave_17 (by decide) (fun c => ?_) (fun c => ?_)
    · have hv := hv.1 c
      refine lv_iconst (v := 0) hx hb dX7_noSave_24 (by decide) ?_
      exact G_zret hC hr hk hE rfl hv dX7_noSave_25
    · have hv := hv.2 c
      refine lv_iconst (v := 1) hx hb dX7_noSave_20 (by decide) ?_
      refine lv_goto (tgt := 25) hx hb dX7_noSave_21 (by decide) ?_
      exact G_zret hC hr hk hE rfl hv dX7_noSave_25
def V_X7_blocks (x1 : Int32) (g : St) (post : Int32 → St → Prop) : Prop := V_X7_noSave x1 g (fun r2 g1 => ((r2 = 0 → V_X7_blocksOf x1 g1 (fun r4 g3 => post r4 g3)) ∧ (¬ r2 = 0 → post 0 g1)))
abbrev rm_X7_blocks : Room := { frames := 3, cells := 0, slots := 0, locals := 64 }
set_option maxHeartbeats 4000000 in
set_option maxRecDepth 100000 in
theorem c_X7_blocks (l : Launch) (D : va_G) (cs az a : Nat → Nat) (x1 : Int32) (g : St) (post : Int32 → St → Prop) (hv : V_X7_blocks x1 g post) : uMi l yX7_blocks wsX7_blocks rm_X7_blocks D cs az (mW cs a) [.ref (a 0), .int x1] g post := by
  refine u_ofI (cc := cX7_blocks) (maxL := 2) (by decide) rfl (Nat.le_of_ble_eq_true rfl) ?_
  intro p e s m args below meth c F ls hC hr hk hl hE
  have hx := hC.1.1; have hb := hC.1.2.1; have hml := hC.1.2.2.1; have hts := hC.1.2.2.2.2
  have hown : s.vm.findClass RX7 = some m.cls := hC.1.2.2.2.1
  have hl : lv_has ls 2 [(0, .ref (a 0)), (1, .int x1)] := hl
  unfold V_X7_blocks at hv
  refine lv_aload_n hx hb dX7_blocks_0 rfl (lv_at hl 0 rfl) ?_
  refine lv_iload_n hx hb dX7_blocks_1 rfl (lv_at hl 1 rfl) ?_
  refine G_callVi hC (c_X7_noSave l D cs az a x1 g _ hv) (cwV 1 hts gX7_blocks_X7_noSave rfl rfl rfl (by decide +kernel) ⟨Nat.le_of_ble_eq_true rfl, Nat.le_of_ble_eq_true rfl⟩) f_model rfl rfl hl rfl (Nat.le_of_ble_eq_true rfl) dX7_blocks_2 hE (fun r2 g1 H locs hv hE => ?_)
  refine lv_if_eq (tgt := 12) hx hb dX7_blocks_5 (by decide) (fun c => ?_) (fun c => ?_)
  · have hv := hv.1 c
    refine lv_aload_n hx hb dX7_blocks_12 rfl (lv_at hl 0 rfl) ?_
    refine lv_iload_n hx hb dX7_blocks_13 rfl (lv_at hl 1 rfl) ?_
    refine G_callVi hC (c_X7_blocksOf l D cs az a x1 g1 _ hv) (cwV 1 hts gX7_blocks_X7_blocksOf rfl rfl rfl (by decide +kernel) ⟨Nat.le_of_ble_eq_true rfl, Nat.le_of_ble_eq_true rfl⟩) f_model rfl rfl hl rfl (Nat.le_of_ble_eq_true rfl) dX7_blocks_14 hE (fun r4 g3 H locs hv hE => ?_)
    exact G_iret hC hr hk hE hv dX7_blocks_17
  · have hv := hv.2 c
    refine lv_iconst (v := 0) hx hb dX7_blocks_8 (by decide) ?_
    refine lv_goto (tgt := 17) hx hb dX7_blocks_9 (by decide) ?_
    exact G_iret hC hr hk hE hv dX7_blocks_17
def J_X7_breakBlock_55 (x1 : Int32) (x2 : Int32) (post : Int32 → St → Prop)  (v1 : Int32) (v2 : Int32) (t0 : Int32) (g : St) : Prop := vp_in ((16 * v1) + v2) 64 ∧ ((narrow .boolean (.int t0) = .int t0) ∧ post t0 (sA g 13 (upd (g.1 13) (Int32.toNatClampNeg ((16 * v1) + v2)) (vp_nar .boolean 1))))
def J_X7_breakBlock_27 (x1 : Int32) (x2 : Int32) (post : Int32 → St → Prop)  (v1 : Int32) (v2 : Int32) (t0 : Int32) (g : St) : Prop := V_X7_no t0 2 g (fun r6 g5 => ((r6 = 0 → vp_in ((16 * v1) + v2) 64 ∧ (((¬ (g5.1 13 (Int32.toNatClampNeg ((16 * v1) + v2))) = 0 → J_X7_breakBlock_55 x1 x2 post v1 v2 0 g5) ∧ ((g5.1 13 (Int32.toNatClampNeg ((16 * v1) + v2))) = 0 → J_X7_breakBlock_55 x1 x2 post v1 v2 1 g5)))) ∧ (¬ r6 = 0 → post 0 g5)))
def J_X7_breakBlock_26 (x1 : Int32) (x2 : Int32) (post : Int32 → St → Prop)  (v1 : Int32) (v2 : Int32) (g : St) : Prop := J_X7_breakBlock_27 x1 x2 post v1 v2 0 g
def V_X7_breakBlock (x1 : Int32) (x2 : Int32) (g : St) (post : Int32 → St → Prop) : Prop := V_X7_noSave x1 g (fun r2 g1 => ((¬ r2 = 0 → post 0 g1) ∧ (r2 = 0 → ((x2 < 0 → J_X7_breakBlock_26 x1 x2 post x1 x2 g1) ∧ (¬ x2 < 0 → V_X7_blocksOf x1 g1 (fun r4 g3 => ((r4 ≤ x2 → J_X7_breakBlock_26 x1 x2 post x1 x2 g3) ∧ (¬ r4 ≤ x2 → J_X7_breakBlock_27 x1 x2 post x1 x2 1 g3))))))))
abbrev rm_X7_breakBlock : Room := { frames := 3, cells := 0, slots := 0, locals := 64 }
set_option maxHeartbeats 4000000 in
set_option maxRecDepth 100000 in
theorem c_X7_breakBlock (l : Launch) (D : va_G) (cs az a : Nat → Nat) (x1 : Int32) (x2 : Int32) (g : St) (post : Int32 → St → Prop) (hv : V_X7_breakBlock x1 x2 g post) : uMi l yX7_breakBlock wsX7_breakBlock rm_X7_breakBlock D cs az (mW cs a) [.ref (a 0), .int x1, .int x2] g post := by
  refine u_ofI (cc := cX7_breakBlock) (maxL := 4) (by decide) rfl (Nat.le_of_ble_eq_true rfl) ?_
  intro p e s m args below meth c F ls hC hr hk hl hE
  have hx := hC.1.1; have hb := hC.1.2.1; have hml := hC.1.2.2.1; have hts := hC.1.2.2.2.2
  have hown : s.vm.findClass RX7 = some m.cls := hC.1.2.2.2.1
  have hl : lv_has ls 4 [(0, .ref (a 0)), (1, .int x1), (2, .int x2)] := hl
  unfold V_X7_breakBlock at hv
  have j_55 : ∀ (v1 : Int32) (v2 : Int32) (t0 : Int32) (g : St), J_X7_breakBlock_55 x1 x2 post v1 v2 t0 g → ∀ (H : Heap) (locs : List Loc) (ls : Array Slot), uE D 16 mA (mO a) cs a F s g H locs → lv_has ls 4 [(0, .ref (a 0)), (1, .int v1), (2, .int v2)] → W p l e rm_X7_breakBlock s m args below meth c H locs 0 0 (MQ below (va_Qi post (uB D (uW 16 mA (mO a) cs a)) F) args s 0 0 F) (F0 m 55 ls [.int t0]) := by
    intro  v1 v2 t0 g  hv
    intro H locs ls hE hl
    unfold J_X7_breakBlock_55 at hv
    refine lv_istore_n (lv' := [(3, .int t0), (0, .ref (a 0)), (1, .int v1), (2, .int v2)]) hx hb dX7_breakBlock_55 rfl hl (by decide) rfl (fun ls hl => ?_)
    refine lv_aload_n hx hb dX7_breakBlock_56 rfl (lv_at hl 1 rfl) ?_
    refine G_get (v := .ref (a 13)) hC hE (fun _ h => List.mem_cons_of_mem _ (List.mem_append_left _ (List.mem_append_right _ h))) f_model rfl 12 (by decide) (hts (.fieldLink RX7 48 "SeedBattleModel" "broken" "[Z") (List.mem_of_getElem? (i := 1) rfl)) rfl dX7_breakBlock_57 ?_
    refine lv_bipush (v := 16) hx hb dX7_breakBlock_60 (by decide) ?_
    refine lv_iload_n hx hb dX7_breakBlock_62 rfl (lv_at hl 2 rfl) ?_
    refine lv_imul hx hb dX7_breakBlock_63 ?_
    refine lv_iload_n hx hb dX7_breakBlock_64 rfl (lv_at hl 3 rfl) ?_
    refine lv_iadd hx hb dX7_breakBlock_65 ?_
    refine lv_iconst (v := 1) hx hb dX7_breakBlock_66 (by decide) ?_
    refine G_zast hC hE f_m_broken hv.1 dX7_breakBlock_67 (fun H locs hE => ?_)
    have hv := hv.2
    refine lv_iload_n hx hb dX7_breakBlock_68 rfl (lv_at hl 0 rfl) ?_
    exact G_zret hC hr hk hE hv.1 hv.2 dX7_breakBlock_69
  have j_27 : ∀ (v1 : Int32) (v2 : Int32) (t0 : Int32) (g : St), J_X7_breakBlock_27 x1 x2 post v1 v2 t0 g → ∀ (H : Heap) (locs : List Loc) (ls : Array Slot), uE D 16 mA (mO a) cs a F s g H locs → lv_has ls 4 [(0, .ref (a 0)), (1, .int v1), (2, .int v2)] → W p l e rm_X7_breakBlock s m args below meth c H locs 0 0 (MQ below (va_Qi post (uB D (uW 16 mA (mO a) cs a)) F) args s 0 0 F) (F0 m 27 ls [.int t0, .ref (a 0)]) := by
    intro  v1 v2 t0 g  hv
    intro H locs ls hE hl
    unfold J_X7_breakBlock_27 at hv
    refine lv_iconst (v := 2) hx hb dX7_breakBlock_27 (by decide) ?_
    refine G_callVi hC (c_X7_no l D cs az a t0 2 g _ hv) (cwV 2 hts gX7_breakBlock_X7_no rfl rfl rfl (by decide +kernel) ⟨Nat.le_of_ble_eq_true rfl, Nat.le_of_ble_eq_true rfl⟩) f_model rfl rfl hl rfl (Nat.le_of_ble_eq_true rfl) dX7_breakBlock_28 hE (fun r6 g5 H locs hv hE => ?_)
    refine lv_if_eq (tgt := 36) hx hb dX7_breakBlock_31 (by decide) (fun c => ?_) (fun c => ?_)
    · have hv := hv.1 c
      refine lv_aload_n hx hb dX7_breakBlock_36 rfl (lv_at hl 0 rfl) ?_
      refine G_get (v := .ref (a 13)) hC hE (fun _ h => List.mem_cons_of_mem _ (List.mem_append_left _ (List.mem_append_right _ h))) f_model rfl 12 (by decide) (hts (.fieldLink RX7 48 "SeedBattleModel" "broken" "[Z") (List.mem_of_getElem? (i := 1) rfl)) rfl dX7_breakBlock_37 ?_
      refine lv_bipush (v := 16) hx hb dX7_breakBlock_40 (by decide) ?_
      refine lv_iload_n hx hb dX7_breakBlock_42 rfl (lv_at hl 1 rfl) ?_
      refine lv_imul hx hb dX7_breakBlock_43 ?_
      refine lv_iload_n hx hb dX7_breakBlock_44 rfl (lv_at hl 2 rfl) ?_
      refine lv_iadd hx hb dX7_breakBlock_45 ?_
      refine G_zald hC hE f_m_broken hv.1 dX7_breakBlock_46 ?_
      have hv := hv.2
      refine lv_if_ne (tgt := 54) hx hb dX7_breakBlock_47 (by decide) (fun c => ?_) (fun c => ?_)
      · have hv := hv.1 c
        refine lv_iconst (v := 0) hx hb dX7_breakBlock_54 (by decide) ?_
        exact j_55  _ _ _ _  hv _ _ _ hE (lv_sub hl [0, 1, 2] rfl)
      · have hv := hv.2 c
        refine lv_iconst (v := 1) hx hb dX7_breakBlock_50 (by decide) ?_
        refine lv_goto (tgt := 55) hx hb dX7_breakBlock_51 (by decide) ?_
        exact j_55  _ _ _ _  hv _ _ _ hE (lv_sub hl [0, 1, 2] rfl)
    · have hv := hv.2 c
      refine lv_iconst (v := 0) hx hb dX7_breakBlock_34 (by decide) ?_
      exact G_zret hC hr hk hE rfl hv dX7_breakBlock_35
  have j_26 : ∀ (v1 : Int32) (v2 : Int32) (g : St), J_X7_breakBlock_26 x1 x2 post v1 v2 g → ∀ (H : Heap) (locs : List Loc) (ls : Array Slot), uE D 16 mA (mO a) cs a F s g H locs → lv_has ls 4 [(0, .ref (a 0)), (1, .int v1), (2, .int v2)] → W p l e rm_X7_breakBlock s m args below meth c H locs 0 0 (MQ below (va_Qi post (uB D (uW 16 mA (mO a) cs a)) F) args s 0 0 F) (F0 m 26 ls [.ref (a 0)]) := by
    intro  v1 v2 g  hv
    intro H locs ls hE hl
    unfold J_X7_breakBlock_26 at hv
    refine lv_iconst (v := 0) hx hb dX7_breakBlock_26 (by decide) ?_
    exact j_27  _ _ _ _  hv _ _ _ hE (lv_sub hl [0, 1, 2] rfl)
  refine lv_aload_n hx hb dX7_breakBlock_0 rfl (lv_at hl 0 rfl) ?_
  refine lv_iload_n hx hb dX7_breakBlock_1 rfl (lv_at hl 1 rfl) ?_
  refine G_callVi hC (c_X7_noSave l D cs az a x1 g _ hv) (cwV 1 hts gX7_breakBlock_X7_noSave rfl rfl rfl (by decide +kernel) ⟨Nat.le_of_ble_eq_true rfl, Nat.le_of_ble_eq_true rfl⟩) f_model rfl rfl hl rfl (Nat.le_of_ble_eq_true rfl) dX7_breakBlock_2 hE (fun r2 g1 H locs hv hE => ?_)
  refine lv_if_ne (tgt := 34) hx hb dX7_breakBlock_5 (by decide) (fun c => ?_) (fun c => ?_)
  · have hv := hv.1 c
    refine lv_iconst (v := 0) hx hb dX7_breakBlock_34 (by decide) ?_
    exact G_zret hC hr hk hE rfl hv dX7_breakBlock_35
  · have hv := hv.2 c
    refine lv_aload_n hx hb dX7_breakBlock_8 rfl (lv_at hl 0 rfl) ?_
    refine lv_iload_n hx hb dX7_breakBlock_9 rfl (lv_at hl 2 rfl) ?_
    refine lv_if_lt (tgt := 26) hx hb dX7_breakBlock_10 (by decide) (fun c => ?_) (fun c => ?_)
    · have hv := hv.1 c
      exact j_26  _ _ _  hv _ _ _ hE (lv_sub hl [0, 1, 2] rfl)
    · have hv := hv.2 c
      refine lv_iload_n hx hb dX7_breakBlock_13 rfl (lv_at hl 2 rfl) ?_
      refine lv_aload_n hx hb dX7_breakBlock_14 rfl (lv_at hl 0 rfl) ?_
      refine lv_iload_n hx hb dX7_breakBlock_15 rfl (lv_at hl 1 rfl) ?_
      refine G_callVi hC (c_X7_blocksOf l D cs az a x1 g1 _ hv) (cwV 1 hts gX7_breakBlock_X7_blocksOf rfl rfl rfl (by decide +kernel) ⟨Nat.le_of_ble_eq_true rfl, Nat.le_of_ble_eq_true rfl⟩) f_model rfl rfl hl rfl (Nat.le_of_ble_eq_true rfl) dX7_breakBlock_16 hE (fun r4 g3 H locs hv hE => ?_)
      refine lv_icmp_ge (tgt := 26) hx hb dX7_breakBlock_19 (by decide) (fun c => ?_) (fun c => ?_)
      · have hv := hv.1 c
        exact j_26  _ _ _  hv _ _ _ hE (lv_sub hl [0, 1, 2] rfl)
      · have hv := hv.2 c
        refine lv_iconst (v := 1) hx hb dX7_breakBlock_22 (by decide) ?_
        refine lv_goto (tgt := 27) hx hb dX7_breakBlock_23 (by decide) ?_
        exact j_27  _ _ _ _  hv _ _ _ hE (lv_sub hl [0, 1, 2] rfl)
def J_X7_savedAt_57 (x1 : Int32) (x2 : Int32) (post : Int32 → St → Prop)  (v1 : Int32) (v2 : Int32) (t0 : Int32) (g : St) : Prop := V_X7_no t0 3 g (fun r6 g5 => ((r6 = 0 → vp_in ((61 * v1) + v2) 244 ∧ (post (g5.1 11 (Int32.toNatClampNeg ((61 * v1) + v2))) g5)) ∧ (¬ r6 = 0 → post 0 g5)))
def J_X7_savedAt_28 (x1 : Int32) (x2 : Int32) (post : Int32 → St → Prop)  (v1 : Int32) (v2 : Int32) (t0 : Int32) (g : St) : Prop := V_X7_no t0 2 g (fun r4 g3 => ((¬ r4 = 0 → post 0 g3) ∧ (r4 = 0 → vp_in ((16 * v1) + (v2 / 4)) 64 ∧ (((¬ (g3.1 13 (Int32.toNatClampNeg ((16 * v1) + (v2 / 4)))) = 0 → J_X7_savedAt_57 x1 x2 post v1 v2 0 g3) ∧ ((g3.1 13 (Int32.toNatClampNeg ((16 * v1) + (v2 / 4)))) = 0 → J_X7_savedAt_57 x1 x2 post v1 v2 1 g3))))))
def J_X7_savedAt_27 (x1 : Int32) (x2 : Int32) (post : Int32 → St → Prop)  (v1 : Int32) (v2 : Int32) (g : St) : Prop := J_X7_savedAt_28 x1 x2 post v1 v2 0 g
def V_X7_savedAt (x1 : Int32) (x2 : Int32) (g : St) (post : Int32 → St → Prop) : Prop := V_X7_noSave x1 g (fun r2 g1 => ((¬ r2 = 0 → post 0 g1) ∧ (r2 = 0 → ((x2 < 0 → J_X7_savedAt_27 x1 x2 post x1 x2 g1) ∧ (¬ x2 < 0 → vp_in x1 4 ∧ ((((g1.1 12 (Int32.toNatClampNeg x1)) ≤ x2 → J_X7_savedAt_27 x1 x2 post x1 x2 g1) ∧ (¬ (g1.1 12 (Int32.toNatClampNeg x1)) ≤ x2 → J_X7_savedAt_28 x1 x2 post x1 x2 1 g1))))))))
abbrev rm_X7_savedAt : Room := { frames := 3, cells := 0, slots := 0, locals := 64 }
set_option maxHeartbeats 4000000 in
set_option maxRecDepth 100000 in
theorem c_X7_savedAt (l : Launch) (D : va_G) (cs az a : Nat → Nat) (x1 : Int32) (x2 : Int32) (g : St) (post : Int32 → St → Prop) (hv : V_X7_savedAt x1 x2 g post) : uMi l yX7_savedAt wsX7_savedAt rm_X7_savedAt D cs az (mW cs a) [.ref (a 0), .int x1, .int x2] g post := by
  refine u_ofI (cc := cX7_savedAt) (maxL := 3) (by decide) rfl (Nat.le_of_ble_eq_true rfl) ?_
  intro p e s m args below meth c F ls hC hr hk hl hE
  have hx := hC.1.1; have hb := hC.1.2.1; have hml := hC.1.2.2.1; have hts := hC.1.2.2.2.2
  have hown : s.vm.findClass RX7 = some m.cls := hC.1.2.2.2.1
  have hl : lv_has ls 3 [(0, .ref (a 0)), (1, .int x1), (2, .int x2)] := hl
  unfold V_X7_savedAt at hv
  have j_57 : ∀ (v1 : Int32) (v2 : Int32) (t0 : Int32) (g : St), J_X7_savedAt_57 x1 x2 post v1 v2 t0 g → ∀ (H : Heap) (locs : List Loc) (ls : Array Slot), uE D 16 mA (mO a) cs a F s g H locs → lv_has ls 3 [(0, .ref (a 0)), (1, .int v1), (2, .int v2)] → W p l e rm_X7_savedAt s m args below meth c H locs 0 0 (MQ below (va_Qi post (uB D (uW 16 mA (mO a) cs a)) F) args s 0 0 F) (F0 m 57 ls [.int t0, .ref (a 0)]) := by
    intro  v1 v2 t0 g  hv
    intro H locs ls hE hl
    unfold J_X7_savedAt_57 at hv
    refine lv_iconst (v := 3) hx hb dX7_savedAt_57 (by decide) ?_
    refine G_callVi hC (c_X7_no l D cs az a t0 3 g _ hv) (cwV 2 hts gX7_savedAt_X7_no rfl rfl rfl (by decide +kernel) ⟨Nat.le_of_ble_eq_true rfl, Nat.le_of_ble_eq_true rfl⟩) f_model rfl rfl hl rfl (Nat.le_of_ble_eq_true rfl) dX7_savedAt_58 hE (fun r6 g5 H locs hv hE => ?_)
    refine lv_if_eq (tgt := 66) hx hb dX7_savedAt_61 (by decide) (fun c => ?_) (fun c => ?_)
    · have hv := hv.1 c
      refine lv_aload_n hx hb dX7_savedAt_66 rfl (lv_at hl 0 rfl) ?_
      refine G_get (v := .ref (a 11)) hC hE (fun _ h => List.mem_cons_of_mem _ (List.mem_append_left _ (List.mem_append_right _ h))) f_model rfl 10 (by decide) (hts (.fieldLink RX7 42 "SeedBattleModel" "saved" "[I") (List.mem_of_getElem? (i := 3) rfl)) rfl dX7_savedAt_67 ?_
      refine lv_bipush (v := 61) hx hb dX7_savedAt_70 (by decide) ?_
      refine lv_iload_n hx hb dX7_savedAt_72 rfl (lv_at hl 1 rfl) ?_
      refine lv_imul hx hb dX7_savedAt_73 ?_
      refine lv_iload_n hx hb dX7_savedAt_74 rfl (lv_at hl 2 rfl) ?_
      refine lv_iadd hx hb dX7_savedAt_75 ?_
      refine G_iald hC hE f_m_saved hv.1 dX7_savedAt_76 ?_
      have hv := hv.2
      exact G_iret hC hr hk hE hv dX7_savedAt_77
    · have hv := hv.2 c
      refine lv_iconst (v := 0) hx hb dX7_savedAt_64 (by decide) ?_
      exact G_iret hC hr hk hE hv dX7_savedAt_65
  have j_28 : ∀ (v1 : Int32) (v2 : Int32) (t0 : Int32) (g : St), J_X7_savedAt_28 x1 x2 post v1 v2 t0 g → ∀ (H : Heap) (locs : List Loc) (ls : Array Slot), uE D 16 mA (mO a) cs a F s g H locs → lv_has ls 3 [(0, .ref (a 0)), (1, .int v1), (2, .int v2)] → W p l e rm_X7_savedAt s m args below meth c H locs 0 0 (MQ below (va_Qi post (uB D (uW 16 mA (mO a) cs a)) F) args s 0 0 F) (F0 m 28 ls [.int t0, .ref (a 0)]) := by
    intro  v1 v2 t0 g  hv
    intro H locs ls hE hl
    unfold J_X7_savedAt_28 at hv
    refine lv_iconst (v := 2) hx hb dX7_savedAt_28 (by decide) ?_
    refine G_callVi hC (c_X7_no l D cs az a t0 2 g _ hv) (cwV 2 hts gX7_savedAt_X7_no rfl rfl rfl (by decide +kernel) ⟨Nat.le_of_ble_eq_true rfl, Nat.le_of_ble_eq_true rfl⟩) f_model rfl rfl hl rfl (Nat.le_of_ble_eq_true rfl) dX7_savedAt_29 hE (fun r4 g3 H locs hv hE => ?_)
    refine lv_if_ne (tgt := 64) hx hb dX7_savedAt_32 (by decide) (fun c => ?_) (fun c => ?_)
    · have hv := hv.1 c
      refine lv_iconst (v := 0) hx hb dX7_savedAt_64 (by decide) ?_
      exact G_iret hC hr hk hE hv dX7_savedAt_65
    · have hv := hv.2 c
      refine lv_aload_n hx hb dX7_savedAt_35 rfl (lv_at hl 0 rfl) ?_
      refine lv_aload_n hx hb dX7_savedAt_36 rfl (lv_at hl 0 rfl) ?_
      refine G_get (v := .ref (a 13)) hC hE (fun _ h => List.mem_cons_of_mem _ (List.mem_append_left _ (List.mem_append_right _ h))) f_model rfl 12 (by decide) (hts (.fieldLink RX7 48 "SeedBattleModel" "broken" "[Z") (List.mem_of_getElem? (i := 2) rfl)) rfl dX7_savedAt_37 ?_
      refine lv_bipush (v := 16) hx hb dX7_savedAt_40 (by decide) ?_
      refine lv_iload_n hx hb dX7_savedAt_42 rfl (lv_at hl 1 rfl) ?_
      refine lv_imul hx hb dX7_savedAt_43 ?_
      refine lv_iload_n hx hb dX7_savedAt_44 rfl (lv_at hl 2 rfl) ?_
      refine lv_iconst (v := 4) hx hb dX7_savedAt_45 (by decide) ?_
      refine lv_idiv hx hb dX7_savedAt_46 (by decide) ?_
      refine lv_iadd hx hb dX7_savedAt_47 ?_
      refine G_zald hC hE f_m_broken hv.1 dX7_savedAt_48 ?_
      have hv := hv.2
      refine lv_if_ne (tgt := 56) hx hb dX7_savedAt_49 (by decide) (fun c => ?_) (fun c => ?_)
      · have hv := hv.1 c
        refine lv_iconst (v := 0) hx hb dX7_savedAt_56 (by decide) ?_
        exact j_57  _ _ _ _  hv _ _ _ hE (lv_sub hl [0, 1, 2] rfl)
      · have hv := hv.2 c
        refine lv_iconst (v := 1) hx hb dX7_savedAt_52 (by decide) ?_
        refine lv_goto (tgt := 57) hx hb dX7_savedAt_53 (by decide) ?_
        exact j_57  _ _ _ _  hv _ _ _ hE (lv_sub hl [0, 1, 2] rfl)
  have j_27 : ∀ (v1 : Int32) (v2 : Int32) (g : St), J_X7_savedAt_27 x1 x2 post v1 v2 g → ∀ (H : Heap) (locs : List Loc) (ls : Array Slot), uE D 16 mA (mO a) cs a F s g H locs → lv_has ls 3 [(0, .ref (a 0)), (1, .int v1), (2, .int v2)] → W p l e rm_X7_savedAt s m args below meth c H locs 0 0 (MQ below (va_Qi post (uB D (uW 16 mA (mO a) cs a)) F) args s 0 0 F) (F0 m 27 ls [.ref (a 0)]) := by
    intro  v1 v2 g  hv
    intro H locs ls hE hl
    unfold J_X7_savedAt_27 at hv
    refine lv_iconst (v := 0) hx hb dX7_savedAt_27 (by decide) ?_
    exact j_28  _ _ _ _  hv _ _ _ hE (lv_sub hl [0, 1, 2] rfl)
  refine lv_aload_n hx hb dX7_savedAt_0 rfl (lv_at hl 0 rfl) ?_
  refine lv_iload_n hx hb dX7_savedAt_1 rfl (lv_at hl 1 rfl) ?_
  refine G_callVi hC (c_X7_noSave l D cs az a x1 g _ hv) (cwV 1 hts gX7_savedAt_X7_noSave rfl rfl rfl (by decide +kernel) ⟨Nat.le_of_ble_eq_true rfl, Nat.le_of_ble_eq_true rfl⟩) f_model rfl rfl hl rfl (Nat.le_of_ble_eq_true rfl) dX7_savedAt_2 hE (fun r2 g1 H locs hv hE => ?_)
  refine lv_if_ne (tgt := 64) hx hb dX7_savedAt_5 (by decide) (fun c => ?_) (fun c => ?_)
  · have hv := hv.1 c
    refine lv_iconst (v := 0) hx hb dX7_savedAt_64 (by decide) ?_
    exact G_iret hC hr hk hE hv dX7_savedAt_65
  · have hv := hv.2 c
    refine lv_aload_n hx hb dX7_savedAt_8 rfl (lv_at hl 0 rfl) ?_
    refine lv_iload_n hx hb dX7_savedAt_9 rfl (lv_at hl 2 rfl) ?_
    refine lv_if_lt (tgt := 27) hx hb dX7_savedAt_10 (by decide) (fun c => ?_) (fun c => ?_)
    · have hv := hv.1 c
      exact j_27  _ _ _  hv _ _ _ hE (lv_sub hl [0, 1, 2] rfl)
    · have hv := hv.2 c
      refine lv_iload_n hx hb dX7_savedAt_13 rfl (lv_at hl 2 rfl) ?_
      refine lv_aload_n hx hb dX7_savedAt_14 rfl (lv_at hl 0 rfl) ?_
      refine G_get (v := .ref (a 12)) hC hE (fun _ h => List.mem_cons_of_mem _ (List.mem_append_left _ (List.mem_append_right _ h))) f_model rfl 11 (by decide) (hts (.fieldLink RX7 45 "SeedBattleModel" "savedSize" "[I") (List.mem_of_getElem? (i := 1) rfl)) rfl dX7_savedAt_15 ?_
      refine lv_iload_n hx hb dX7_savedAt_18 rfl (lv_at hl 1 rfl) ?_
      refine G_iald hC hE f_m_savedSize hv.1 dX7_savedAt_19 ?_
      have hv := hv.2
      refine lv_icmp_ge (tgt := 27) hx hb dX7_savedAt_20 (by decide) (fun c => ?_) (fun c => ?_)
      · have hv := hv.1 c
        exact j_27  _ _ _  hv _ _ _ hE (lv_sub hl [0, 1, 2] rfl)
      · have hv := hv.2 c
        refine lv_iconst (v := 1) hx hb dX7_savedAt_23 (by decide) ?_
        refine lv_goto (tgt := 28) hx hb dX7_savedAt_24 (by decide) ?_
        exact j_28  _ _ _ _  hv _ _ _ hE (lv_sub hl [0, 1, 2] rfl)
def J_X7_canRebuild_72 (x1 : Int32) (x2 : Int32) (post : Int32 → St → Prop) (K8 : (Int32 × Int32 × Int32 × Int32 × Int32 × St) → Prop) (v1 : Int32) (v2 : Int32) (v3 : Int32) (v4 : Int32) (v5 : Int32) (g : St) : Prop := K8 (v1, v2, v3, v4, (v5 + 1), g)
def J_X7_canRebuild_69 (x1 : Int32) (x2 : Int32) (post : Int32 → St → Prop) (K8 : (Int32 × Int32 × Int32 × Int32 × Int32 × St) → Prop) (v1 : Int32) (v2 : Int32) (v3 : Int32) (v5 : Int32) (t0 : Int32) (t1 : Int32) (g : St) : Prop := J_X7_canRebuild_72 x1 x2 post K8 v1 v2 v3 (t1 &&& t0) v5 g
def J_X7_canRebuild_68 (x1 : Int32) (x2 : Int32) (post : Int32 → St → Prop) (K8 : (Int32 × Int32 × Int32 × Int32 × Int32 × St) → Prop) (v1 : Int32) (v2 : Int32) (v3 : Int32) (v5 : Int32) (t0 : Int32) (g : St) : Prop := J_X7_canRebuild_69 x1 x2 post K8 v1 v2 v3 v5 0 t0 g
def J_X7_canRebuild_8 (x1 : Int32) (x2 : Int32) (post : Int32 → St → Prop) (K8 : (Int32 × Int32 × Int32 × Int32 × Int32 × St) → Prop) (v1 : Int32) (v2 : Int32) (v3 : Int32) (v4 : Int32) (v5 : Int32) (g : St) : Prop := ((4 ≤ v5 → ((v3 = 0 → post 0 g) ∧ (¬ v3 = 0 → ((v4 = 0 → post 0 g) ∧ (¬ v4 = 0 → post 1 g))))) ∧ (¬ 4 ≤ v5 → vp_in ((4 * v1) + v5) 16 ∧ (((¬ (g.1 14 (Int32.toNatClampNeg ((4 * v1) + v5))) = 0 → vp_in ((4 * v1) + v5) 16 ∧ (((¬ (g.1 15 (Int32.toNatClampNeg ((4 * v1) + v5))) = 0 → J_X7_canRebuild_68 x1 x2 post K8 v1 v2 1 v5 v4 g) ∧ ((g.1 15 (Int32.toNatClampNeg ((4 * v1) + v5))) = 0 → vp_in ((16 * v5) + v2) 64 ∧ (((¬ (g.1 13 (Int32.toNatClampNeg ((16 * v5) + v2))) = 0 → J_X7_canRebuild_68 x1 x2 post K8 v1 v2 1 v5 v4 g) ∧ ((g.1 13 (Int32.toNatClampNeg ((16 * v5) + v2))) = 0 → J_X7_canRebuild_69 x1 x2 post K8 v1 v2 1 v5 1 v4 g))))))) ∧ ((g.1 14 (Int32.toNatClampNeg ((4 * v1) + v5))) = 0 → J_X7_canRebuild_72 x1 x2 post K8 v1 v2 v3 v4 v5 g)))))
def V_X7_canRebuild (x1 : Int32) (x2 : Int32) (g : St) (post : Int32 → St → Prop) : Prop := lpP (fun K8 (z : Int32 × Int32 × Int32 × Int32 × Int32 × St) => J_X7_canRebuild_8 x1 x2 post K8 z.1 z.2.1 z.2.2.1 z.2.2.2.1 z.2.2.2.2.1 z.2.2.2.2.2) (x1, x2, 0, 1, 0, g)
abbrev rm_X7_canRebuild : Room := { frames := 0, cells := 0, slots := 0, locals := 0 }
set_option maxHeartbeats 4000000 in
set_option maxRecDepth 100000 in
theorem c_X7_canRebuild (l : Launch) (D : va_G) (cs az a : Nat → Nat) (x1 : Int32) (x2 : Int32) (g : St) (post : Int32 → St → Prop) (hv : V_X7_canRebuild x1 x2 g post) : uMi l yX7_canRebuild wsX7_canRebuild rm_X7_canRebuild D cs az (mW cs a) [.ref (a 0), .int x1, .int x2] g post := by
  refine u_ofI (cc := cX7_canRebuild) (maxL := 6) (by decide) rfl (Nat.le_of_ble_eq_true rfl) ?_
  intro p e s m args below meth c F ls hC hr hk hl hE
  have hx := hC.1.1; have hb := hC.1.2.1; have hml := hC.1.2.2.1; have hts := hC.1.2.2.2.2
  have hown : s.vm.findClass RX7 = some m.cls := hC.1.2.2.2.1
  have hl : lv_has ls 6 [(0, .ref (a 0)), (1, .int x1), (2, .int x2)] := hl
  unfold V_X7_canRebuild at hv
  have j_72 : ∀ (K8 : (Int32 × Int32 × Int32 × Int32 × Int32 × St) → Prop), (∀ (v1 : Int32) (v2 : Int32) (v3 : Int32) (v4 : Int32) (v5 : Int32) (g : St), K8 (v1, v2, v3, v4, v5, g) → ∀ (H : Heap) (locs : List Loc) (ls : Array Slot), uE D 16 mA (mO a) cs a F s g H locs → lv_has ls 6 [(0, .ref (a 0)), (1, .int v1), (2, .int v2), (3, .int v3), (4, .int v4), (5, .int v5)] → W p l e rm_X7_canRebuild s m args below meth c H locs 0 0 (MQ below (va_Qi post (uB D (uW 16 mA (mO a) cs a)) F) args s 0 0 F) (F0 m 8 ls [])) → ∀ (v1 : Int32) (v2 : Int32) (v3 : Int32) (v4 : Int32) (v5 : Int32) (g : St), J_X7_canRebuild_72 x1 x2 post K8 v1 v2 v3 v4 v5 g → ∀ (H : Heap) (locs : List Loc) (ls : Array Slot), uE D 16 mA (mO a) cs a F s g H locs → lv_has ls 6 [(0, .ref (a 0)), (1, .int v1), (2, .int v2), (3, .int v3), (4, .int v4), (5, .int v5)] → W p l e rm_X7_canRebuild s m args below meth c H locs 0 0 (MQ below (va_Qi post (uB D (uW 16 mA (mO a) cs a)) F) args s 0 0 F) (F0 m 72 ls []) := by
    intro K8 hK8 v1 v2 v3 v4 v5 g  hv
    intro H locs ls hE hl
    unfold J_X7_canRebuild_72 at hv
    refine lv_iinc (v := (v5 + 1)) (lv' := [(5, .int (v5 + 1)), (0, .ref (a 0)), (1, .int v1), (2, .int v2), (3, .int v3), (4, .int v4)]) hx hb dX7_canRebuild_72 hl (k := 5) rfl rfl (by decide) rfl (fun ls hl => ?_)
    refine lv_goto (tgt := 8) hx hb dX7_canRebuild_75 (by decide) ?_
    exact hK8 _ _ _ _ _ _  hv _ _ _ hE (lv_sub hl [1, 2, 3, 4, 5, 0] rfl)
  have j_69 : ∀ (K8 : (Int32 × Int32 × Int32 × Int32 × Int32 × St) → Prop), (∀ (v1 : Int32) (v2 : Int32) (v3 : Int32) (v4 : Int32) (v5 : Int32) (g : St), K8 (v1, v2, v3, v4, v5, g) → ∀ (H : Heap) (locs : List Loc) (ls : Array Slot), uE D 16 mA (mO a) cs a F s g H locs → lv_has ls 6 [(0, .ref (a 0)), (1, .int v1), (2, .int v2), (3, .int v3), (4, .int v4), (5, .int v5)] → W p l e rm_X7_canRebuild s m args below meth c H locs 0 0 (MQ below (va_Qi post (uB D (uW 16 mA (mO a) cs a)) F) args s 0 0 F) (F0 m 8 ls [])) → ∀ (v1 : Int32) (v2 : Int32) (v3 : Int32) (v5 : Int32) (t0 : Int32) (t1 : Int32) (g : St), J_X7_canRebuild_69 x1 x2 post K8 v1 v2 v3 v5 t0 t1 g → ∀ (H : Heap) (locs : List Loc) (ls : Array Slot), uE D 16 mA (mO a) cs a F s g H locs → lv_has ls 6 [(0, .ref (a 0)), (1, .int v1), (2, .int v2), (3, .int v3), (5, .int v5)] → W p l e rm_X7_canRebuild s m args below meth c H locs 0 0 (MQ below (va_Qi post (uB D (uW 16 mA (mO a) cs a)) F) args s 0 0 F) (F0 m 69 ls [.int t0, .int t1]) := by
    intro K8 hK8 v1 v2 v3 v5 t0 t1 g  hv
    intro H locs ls hE hl
    unfold J_X7_canRebuild_69 at hv
    refine lv_iand hx hb dX7_canRebuild_69 ?_
    refine lv_istore (lv' := [(4, .int (t1 &&& t0)), (0, .ref (a 0)), (1, .int v1), (2, .int v2), (3, .int v3), (5, .int v5)]) hx hb dX7_canRebuild_70 hl (by decide) rfl (fun ls hl => ?_)
    exact j_72 _ hK8 _ _ _ _ _ _  hv _ _ _ hE (lv_sub hl [1, 2, 3, 4, 0, 5] rfl)
  have j_68 : ∀ (K8 : (Int32 × Int32 × Int32 × Int32 × Int32 × St) → Prop), (∀ (v1 : Int32) (v2 : Int32) (v3 : Int32) (v4 : Int32) (v5 : Int32) (g : St), K8 (v1, v2, v3, v4, v5, g) → ∀ (H : Heap) (locs : List Loc) (ls : Array Slot), uE D 16 mA (mO a) cs a F s g H locs → lv_has ls 6 [(0, .ref (a 0)), (1, .int v1), (2, .int v2), (3, .int v3), (4, .int v4), (5, .int v5)] → W p l e rm_X7_canRebuild s m args below meth c H locs 0 0 (MQ below (va_Qi post (uB D (uW 16 mA (mO a) cs a)) F) args s 0 0 F) (F0 m 8 ls [])) → ∀ (v1 : Int32) (v2 : Int32) (v3 : Int32) (v5 : Int32) (t0 : Int32) (g : St), J_X7_canRebuild_68 x1 x2 post K8 v1 v2 v3 v5 t0 g → ∀ (H : Heap) (locs : List Loc) (ls : Array Slot), uE D 16 mA (mO a) cs a F s g H locs → lv_has ls 6 [(0, .ref (a 0)), (1, .int v1), (2, .int v2), (3, .int v3), (5, .int v5)] → W p l e rm_X7_canRebuild s m args below meth c H locs 0 0 (MQ below (va_Qi post (uB D (uW 16 mA (mO a) cs a)) F) args s 0 0 F) (F0 m 68 ls [.int t0]) := by
    intro K8 hK8 v1 v2 v3 v5 t0 g  hv
    intro H locs ls hE hl
    unfold J_X7_canRebuild_68 at hv
    refine lv_iconst (v := 0) hx hb dX7_canRebuild_68 (by decide) ?_
    exact j_69 _ hK8 _ _ _ _ _ _ _  hv _ _ _ hE (lv_sub hl [0, 1, 2, 3, 4] rfl)
  have j_8 : ∀ (v1 : Int32) (v2 : Int32) (v3 : Int32) (v4 : Int32) (v5 : Int32) (g : St), lpP (fun K8 (z : Int32 × Int32 × Int32 × Int32 × Int32 × St) => J_X7_canRebuild_8 x1 x2 post K8 z.1 z.2.1 z.2.2.1 z.2.2.2.1 z.2.2.2.2.1 z.2.2.2.2.2) (v1, v2, v3, v4, v5, g) → ∀ (H : Heap) (locs : List Loc) (ls : Array Slot), uE D 16 mA (mO a) cs a F s g H locs → lv_has ls 6 [(0, .ref (a 0)), (1, .int v1), (2, .int v2), (3, .int v3), (4, .int v4), (5, .int v5)] → W p l e rm_X7_canRebuild s m args below meth c H locs 0 0 (MQ below (va_Qi post (uB D (uW 16 mA (mO a) cs a)) F) args s 0 0 F) (F0 m 8 ls []) := by
    intro  v1 v2 v3 v4 v5 g  hv
    obtain ⟨nn, hv⟩ := hv
    induction nn generalizing v1 v2 v3 v4 v5 g with
    | zero => exact False.elim hv
    | succ nn hK8 =>
      intro H locs ls hE hl
      have hv : J_X7_canRebuild_8 x1 x2 post (itP _ nn) v1 v2 v3 v4 v5 g := hv
      unfold J_X7_canRebuild_8 at hv
      refine lv_iload hx hb dX7_canRebuild_8 (lv_at hl 5 rfl) ?_
      refine lv_iconst (v := 4) hx hb dX7_canRebuild_10 (by decide) ?_
      refine lv_icmp_ge (tgt := 78) hx hb dX7_canRebuild_11 (by decide) (fun c => ?_) (fun c => ?_)
      · have hv := hv.1 c
        refine lv_iload_n hx hb dX7_canRebuild_78 rfl (lv_at hl 3 rfl) ?_
        refine lv_if_eq (tgt := 91) hx hb dX7_canRebuild_79 (by decide) (fun c => ?_) (fun c => ?_)
        · have hv := hv.1 c
          refine lv_iconst (v := 0) hx hb dX7_canRebuild_91 (by decide) ?_
          exact G_zret hC hr hk hE rfl hv dX7_canRebuild_92
        · have hv := hv.2 c
          refine lv_iload hx hb dX7_canRebuild_82 (lv_at hl 4 rfl) ?_
          refine lv_if_eq (tgt := 91) hx hb dX7_canRebuild_84 (by decide) (fun c => ?_) (fun c => ?_)
          · have hv := hv.1 c
            refine lv_iconst (v := 0) hx hb dX7_canRebuild_91 (by decide) ?_
            exact G_zret hC hr hk hE rfl hv dX7_canRebuild_92
          · have hv := hv.2 c
            refine lv_iconst (v := 1) hx hb dX7_canRebuild_87 (by decide) ?_
            refine lv_goto (tgt := 92) hx hb dX7_canRebuild_88 (by decide) ?_
            exact G_zret hC hr hk hE rfl hv dX7_canRebuild_92
      · have hv := hv.2 c
        refine lv_aload_n hx hb dX7_canRebuild_14 rfl (lv_at hl 0 rfl) ?_
        refine G_get (v := .ref (a 14)) hC hE (fun _ h => List.mem_cons_of_mem _ (List.mem_append_left _ (List.mem_append_right _ h))) f_model rfl 13 (by decide) (hts (.fieldLink RX7 51 "SeedBattleModel" "ally" "[Z") (List.mem_of_getElem? (i := 1) rfl)) rfl dX7_canRebuild_15 ?_
        refine lv_iconst (v := 4) hx hb dX7_canRebuild_18 (by decide) ?_
        refine lv_iload_n hx hb dX7_canRebuild_19 rfl (lv_at hl 1 rfl) ?_
        refine lv_imul hx hb dX7_canRebuild_20 ?_
        refine lv_iload hx hb dX7_canRebuild_21 (lv_at hl 5 rfl) ?_
        refine lv_iadd hx hb dX7_canRebuild_23 ?_
        refine G_zald hC hE f_m_ally hv.1 dX7_canRebuild_24 ?_
        have hv := hv.2
        refine lv_if_ne (tgt := 31) hx hb dX7_canRebuild_25 (by decide) (fun c => ?_) (fun c => ?_)
        · have hv := hv.1 c
          refine lv_iconst (v := 1) hx hb dX7_canRebuild_31 (by decide) ?_
          refine lv_istore_n (lv' := [(3, .int 1), (0, .ref (a 0)), (1, .int v1), (2, .int v2), (4, .int v4), (5, .int v5)]) hx hb dX7_canRebuild_32 rfl hl (by decide) rfl (fun ls hl => ?_)
          refine lv_iload hx hb dX7_canRebuild_33 (lv_at hl 4 rfl) ?_
          refine lv_aload_n hx hb dX7_canRebuild_35 rfl (lv_at hl 1 rfl) ?_
          refine G_get (v := .ref (a 15)) hC hE (fun _ h => List.mem_cons_of_mem _ (List.mem_append_left _ (List.mem_append_right _ h))) f_model rfl 14 (by decide) (hts (.fieldLink RX7 54 "SeedBattleModel" "ended" "[Z") (List.mem_of_getElem? (i := 2) rfl)) rfl dX7_canRebuild_36 ?_
          refine lv_iconst (v := 4) hx hb dX7_canRebuild_39 (by decide) ?_
          refine lv_iload_n hx hb dX7_canRebuild_40 rfl (lv_at hl 2 rfl) ?_
          refine lv_imul hx hb dX7_canRebuild_41 ?_
          refine lv_iload hx hb dX7_canRebuild_42 (lv_at hl 5 rfl) ?_
          refine lv_iadd hx hb dX7_canRebuild_44 ?_
          refine G_zald hC hE f_m_ended hv.1 dX7_canRebuild_45 ?_
          have hv := hv.2
          refine lv_if_ne (tgt := 68) hx hb dX7_canRebuild_46 (by decide) (fun c => ?_) (fun c => ?_)
          · have hv := hv.1 c
            exact j_68 _ hK8 _ _ _ _ _ _  hv _ _ _ hE (lv_sub hl [1, 2, 3, 0, 5] rfl)
          · have hv := hv.2 c
            refine lv_aload_n hx hb dX7_canRebuild_49 rfl (lv_at hl 1 rfl) ?_
            refine G_get (v := .ref (a 13)) hC hE (fun _ h => List.mem_cons_of_mem _ (List.mem_append_left _ (List.mem_append_right _ h))) f_model rfl 12 (by decide) (hts (.fieldLink RX7 48 "SeedBattleModel" "broken" "[Z") (List.mem_of_getElem? (i := 3) rfl)) rfl dX7_canRebuild_50 ?_
            refine lv_bipush (v := 16) hx hb dX7_canRebuild_53 (by decide) ?_
            refine lv_iload hx hb dX7_canRebuild_55 (lv_at hl 5 rfl) ?_
            refine lv_imul hx hb dX7_canRebuild_57 ?_
            refine lv_iload_n hx hb dX7_canRebuild_58 rfl (lv_at hl 3 rfl) ?_
            refine lv_iadd hx hb dX7_canRebuild_59 ?_
            refine G_zald hC hE f_m_broken hv.1 dX7_canRebuild_60 ?_
            have hv := hv.2
            refine lv_if_ne (tgt := 68) hx hb dX7_canRebuild_61 (by decide) (fun c => ?_) (fun c => ?_)
            · have hv := hv.1 c
              exact j_68 _ hK8 _ _ _ _ _ _  hv _ _ _ hE (lv_sub hl [1, 2, 3, 0, 5] rfl)
            · have hv := hv.2 c
              refine lv_iconst (v := 1) hx hb dX7_canRebuild_64 (by decide) ?_
              refine lv_goto (tgt := 69) hx hb dX7_canRebuild_65 (by decide) ?_
              exact j_69 _ hK8 _ _ _ _ _ _ _  hv _ _ _ hE (lv_sub hl [1, 2, 3, 0, 5] rfl)
        · have hv := hv.2 c
          refine lv_goto (tgt := 72) hx hb dX7_canRebuild_28 (by decide) ?_
          exact j_72 _ hK8 _ _ _ _ _ _  hv _ _ _ hE (lv_sub hl [0, 1, 2, 3, 4, 5] rfl)
  refine lv_iconst (v := 0) hx hb dX7_canRebuild_0 (by decide) ?_
  refine lv_istore_n (lv' := [(3, .int 0), (0, .ref (a 0)), (1, .int x1), (2, .int x2)]) hx hb dX7_canRebuild_1 rfl hl (by decide) rfl (fun ls hl => ?_)
  refine lv_iconst (v := 1) hx hb dX7_canRebuild_2 (by decide) ?_
  refine lv_istore (lv' := [(4, .int 1), (3, .int 0), (0, .ref (a 0)), (1, .int x1), (2, .int x2)]) hx hb dX7_canRebuild_3 hl (by decide) rfl (fun ls hl => ?_)
  refine lv_iconst (v := 0) hx hb dX7_canRebuild_5 (by decide) ?_
  refine lv_istore (lv' := [(5, .int 0), (4, .int 1), (3, .int 0), (0, .ref (a 0)), (1, .int x1), (2, .int x2)]) hx hb dX7_canRebuild_6 hl (by decide) rfl (fun ls hl => ?_)
  exact j_8  _ _ _ _ _ _  hv _ _ _ hE (lv_sub hl [3, 4, 5, 2, 1, 0] rfl)
def J_X7_repair_64 (x1 : Int32) (post : Int32 → St → Prop) (K14 : (Int32 × Int32 × Int32 × St) → Prop) (v1 : Int32) (v2 : Int32) (v3 : Int32) (g : St) : Prop := K14 (v1, v2, (v3 + 1), g)
def J_X7_repair_14 (x1 : Int32) (post : Int32 → St → Prop) (K14 : (Int32 × Int32 × Int32 × St) → Prop) (v1 : Int32) (v2 : Int32) (v3 : Int32) (g : St) : Prop := V_X7_blocksOf v1 g (fun r4 g3 => ((r4 ≤ v3 → post v2 g3) ∧ (¬ r4 ≤ v3 → vp_in ((16 * v1) + v3) 64 ∧ ((((g3.1 13 (Int32.toNatClampNeg ((16 * v1) + v3))) = 0 → J_X7_repair_64 x1 post K14 v1 v2 v3 g3) ∧ (¬ (g3.1 13 (Int32.toNatClampNeg ((16 * v1) + v3))) = 0 → V_X7_canRebuild v1 v3 g3 (fun r6 g5 => ((¬ r6 = 0 → vp_in ((16 * v1) + v3) 64 ∧ (J_X7_repair_64 x1 post K14 v1 (v2 + 1) v3 (sA g5 13 (upd (g5.1 13) (Int32.toNatClampNeg ((16 * v1) + v3)) (vp_nar .boolean 0))))) ∧ (r6 = 0 → J_X7_repair_64 x1 post K14 v1 v2 v3 g5)))))))))
def V_X7_repair (x1 : Int32) (g : St) (post : Int32 → St → Prop) : Prop := V_X7_noSave x1 g (fun r2 g1 => ((r2 = 0 → lpP (fun K14 (z : Int32 × Int32 × Int32 × St) => J_X7_repair_14 x1 post K14 z.1 z.2.1 z.2.2.1 z.2.2.2) (x1, 0, 0, g1)) ∧ (¬ r2 = 0 → post 0 g1)))
abbrev rm_X7_repair : Room := { frames := 3, cells := 0, slots := 0, locals := 64 }
set_option maxHeartbeats 4000000 in
set_option maxRecDepth 100000 in
theorem c_X7_repair (l : Launch) (D : va_G) (cs az a : Nat → Nat) (x1 : Int32) (g : St) (post : Int32 → St → Prop) (hv : V_X7_repair x1 g post) : uMi l yX7_repair wsX7_repair rm_X7_repair D cs az (mW cs a) [.ref (a 0), .int x1] g post := by
  refine u_ofI (cc := cX7_repair) (maxL := 4) (by decide) rfl (Nat.le_of_ble_eq_true rfl) ?_
  intro p e s m args below meth c F ls hC hr hk hl hE
  have hx := hC.1.1; have hb := hC.1.2.1; have hml := hC.1.2.2.1; have hts := hC.1.2.2.2.2
  have hown : s.vm.findClass RX7 = some m.cls := hC.1.2.2.2.1
  have hl : lv_has ls 4 [(0, .ref (a 0)), (1, .int x1)] := hl
  unfold V_X7_repair at hv
  have j_64 : ∀ (K14 : (Int32 × Int32 × Int32 × St) → Prop), (∀ (v1 : Int32) (v2 : Int32) (v3 : Int32) (g : St), K14 (v1, v2, v3, g) → ∀ (H : Heap) (locs : List Loc) (ls : Array Slot), uE D 16 mA (mO a) cs a F s g H locs → lv_has ls 4 [(0, .ref (a 0)), (1, .int v1), (2, .int v2), (3, .int v3)] → W p l e rm_X7_repair s m args below meth c H locs 0 0 (MQ below (va_Qi post (uB D (uW 16 mA (mO a) cs a)) F) args s 0 0 F) (F0 m 14 ls [])) → ∀ (v1 : Int32) (v2 : Int32) (v3 : Int32) (g : St), J_X7_repair_64 x1 post K14 v1 v2 v3 g → ∀ (H : Heap) (locs : List Loc) (ls : Array Slot), uE D 16 mA (mO a) cs a F s g H locs → lv_has ls 4 [(0, .ref (a 0)), (1, .int v1), (2, .int v2), (3, .int v3)] → W p l e rm_X7_repair s m args below meth c H locs 0 0 (MQ below (va_Qi post (uB D (uW 16 mA (mO a) cs a)) F) args s 0 0 F) (F0 m 64 ls []) := by
    intro K14 hK14 v1 v2 v3 g  hv
    intro H locs ls hE hl
    unfold J_X7_repair_64 at hv
    refine lv_iinc (v := (v3 + 1)) (lv' := [(3, .int (v3 + 1)), (0, .ref (a 0)), (1, .int v1), (2, .int v2)]) hx hb dX7_repair_64 hl (k := 3) rfl rfl (by decide) rfl (fun ls hl => ?_)
    refine lv_goto (tgt := 14) hx hb dX7_repair_67 (by decide) ?_
    exact hK14 _ _ _ _  hv _ _ _ hE (lv_sub hl [1, 2, 3, 0] rfl)
  have j_14 : ∀ (v1 : Int32) (v2 : Int32) (v3 : Int32) (g : St), lpP (fun K14 (z : Int32 × Int32 × Int32 × St) => J_X7_repair_14 x1 post K14 z.1 z.2.1 z.2.2.1 z.2.2.2) (v1, v2, v3, g) → ∀ (H : Heap) (locs : List Loc) (ls : Array Slot), uE D 16 mA (mO a) cs a F s g H locs → lv_has ls 4 [(0, .ref (a 0)), (1, .int v1), (2, .int v2), (3, .int v3)] → W p l e rm_X7_repair s m args below meth c H locs 0 0 (MQ below (va_Qi post (uB D (uW 16 mA (mO a) cs a)) F) args s 0 0 F) (F0 m 14 ls []) := by
    intro  v1 v2 v3 g  hv
    obtain ⟨nn, hv⟩ := hv
    induction nn generalizing v1 v2 v3 g with
    | zero => exact False.elim hv
    | succ nn hK14 =>
      intro H locs ls hE hl
      have hv : J_X7_repair_14 x1 post (itP _ nn) v1 v2 v3 g := hv
      unfold J_X7_repair_14 at hv
      refine lv_iload_n hx hb dX7_repair_14 rfl (lv_at hl 3 rfl) ?_
      refine lv_aload_n hx hb dX7_repair_15 rfl (lv_at hl 0 rfl) ?_
      refine lv_iload_n hx hb dX7_repair_16 rfl (lv_at hl 1 rfl) ?_
      refine G_callVi hC (c_X7_blocksOf l D cs az a v1 g _ hv) (cwV 1 hts gX7_repair_X7_blocksOf rfl rfl rfl (by decide +kernel) ⟨Nat.le_of_ble_eq_true rfl, Nat.le_of_ble_eq_true rfl⟩) f_model rfl rfl hl rfl (Nat.le_of_ble_eq_true rfl) dX7_repair_17 hE (fun r4 g3 H locs hv hE => ?_)
      refine lv_icmp_ge (tgt := 70) hx hb dX7_repair_20 (by decide) (fun c => ?_) (fun c => ?_)
      · have hv := hv.1 c
        refine lv_iload_n hx hb dX7_repair_70 rfl (lv_at hl 2 rfl) ?_
        exact G_iret hC hr hk hE hv dX7_repair_71
      · have hv := hv.2 c
        refine lv_aload_n hx hb dX7_repair_23 rfl (lv_at hl 0 rfl) ?_
        refine G_get (v := .ref (a 13)) hC hE (fun _ h => List.mem_cons_of_mem _ (List.mem_append_left _ (List.mem_append_right _ h))) f_model rfl 12 (by decide) (hts (.fieldLink RX7 48 "SeedBattleModel" "broken" "[Z") (List.mem_of_getElem? (i := 1) rfl)) rfl dX7_repair_24 ?_
        refine lv_bipush (v := 16) hx hb dX7_repair_27 (by decide) ?_
        refine lv_iload_n hx hb dX7_repair_29 rfl (lv_at hl 1 rfl) ?_
        refine lv_imul hx hb dX7_repair_30 ?_
        refine lv_iload_n hx hb dX7_repair_31 rfl (lv_at hl 3 rfl) ?_
        refine lv_iadd hx hb dX7_repair_32 ?_
        refine G_zald hC hE f_m_broken hv.1 dX7_repair_33 ?_
        have hv := hv.2
        refine lv_if_eq (tgt := 64) hx hb dX7_repair_34 (by decide) (fun c => ?_) (fun c => ?_)
        · have hv := hv.1 c
          exact j_64 _ hK14 _ _ _ _  hv _ _ _ hE (lv_sub hl [0, 1, 2, 3] rfl)
        · have hv := hv.2 c
          refine lv_aload_n hx hb dX7_repair_37 rfl (lv_at hl 0 rfl) ?_
          refine lv_iload_n hx hb dX7_repair_38 rfl (lv_at hl 1 rfl) ?_
          refine lv_iload_n hx hb dX7_repair_39 rfl (lv_at hl 3 rfl) ?_
          refine G_callVi hC (c_X7_canRebuild l D cs az a v1 v3 g3 _ hv) (cwV 2 hts gX7_repair_X7_canRebuild rfl rfl rfl (by decide +kernel) ⟨Nat.le_of_ble_eq_true rfl, Nat.le_of_ble_eq_true rfl⟩) f_model rfl rfl hl rfl (Nat.le_of_ble_eq_true rfl) dX7_repair_40 hE (fun r6 g5 H locs hv hE => ?_)
          refine lv_if_ne (tgt := 49) hx hb dX7_repair_43 (by decide) (fun c => ?_) (fun c => ?_)
          · have hv := hv.1 c
            refine lv_aload_n hx hb dX7_repair_49 rfl (lv_at hl 0 rfl) ?_
            refine G_get (v := .ref (a 13)) hC hE (fun _ h => List.mem_cons_of_mem _ (List.mem_append_left _ (List.mem_append_right _ h))) f_model rfl 12 (by decide) (hts (.fieldLink RX7 48 "SeedBattleModel" "broken" "[Z") (List.mem_of_getElem? (i := 1) rfl)) rfl dX7_repair_50 ?_
            refine lv_bipush (v := 16) hx hb dX7_repair_53 (by decide) ?_
            refine lv_iload_n hx hb dX7_repair_55 rfl (lv_at hl 1 rfl) ?_
            refine lv_imul hx hb dX7_repair_56 ?_
            refine lv_iload_n hx hb dX7_repair_57 rfl (lv_at hl 3 rfl) ?_
            refine lv_iadd hx hb dX7_repair_58 ?_
            refine lv_iconst (v := 0) hx hb dX7_repair_59 (by decide) ?_
            refine G_zast hC hE f_m_broken hv.1 dX7_repair_60 (fun H locs hE => ?_)
            have hv := hv.2
            refine lv_iinc (v := (v2 + 1)) (lv' := [(2, .int (v2 + 1)), (0, .ref (a 0)), (1, .int v1), (3, .int v3)]) hx hb dX7_repair_61 hl (k := 2) rfl rfl (by decide) rfl (fun ls hl => ?_)
            exact j_64 _ hK14 _ _ _ _  hv _ _ _ hE (lv_sub hl [1, 2, 0, 3] rfl)
          · have hv := hv.2 c
            refine lv_goto (tgt := 64) hx hb dX7_repair_46 (by decide) ?_
            exact j_64 _ hK14 _ _ _ _  hv _ _ _ hE (lv_sub hl [0, 1, 2, 3] rfl)
  refine lv_aload_n hx hb dX7_repair_0 rfl (lv_at hl 0 rfl) ?_
  refine lv_iload_n hx hb dX7_repair_1 rfl (lv_at hl 1 rfl) ?_
  refine G_callVi hC (c_X7_noSave l D cs az a x1 g _ hv) (cwV 1 hts gX7_repair_X7_noSave rfl rfl rfl (by decide +kernel) ⟨Nat.le_of_ble_eq_true rfl, Nat.le_of_ble_eq_true rfl⟩) f_model rfl rfl hl rfl (Nat.le_of_ble_eq_true rfl) dX7_repair_2 hE (fun r2 g1 H locs hv hE => ?_)
  refine lv_if_eq (tgt := 10) hx hb dX7_repair_5 (by decide) (fun c => ?_) (fun c => ?_)
  · have hv := hv.1 c
    refine lv_iconst (v := 0) hx hb dX7_repair_10 (by decide) ?_
    refine lv_istore_n (lv' := [(2, .int 0), (0, .ref (a 0)), (1, .int x1)]) hx hb dX7_repair_11 rfl hl (by decide) rfl (fun ls hl => ?_)
    refine lv_iconst (v := 0) hx hb dX7_repair_12 (by decide) ?_
    refine lv_istore_n (lv' := [(3, .int 0), (2, .int 0), (0, .ref (a 0)), (1, .int x1)]) hx hb dX7_repair_13 rfl hl (by decide) rfl (fun ls hl => ?_)
    exact j_14  _ _ _ _  hv _ _ _ hE (lv_sub hl [2, 3, 1, 0] rfl)
  · have hv := hv.2 c
    refine lv_iconst (v := 0) hx hb dX7_repair_8 (by decide) ?_
    exact G_iret hC hr hk hE hv dX7_repair_9
def J_X7_load_64 (x1 : Int32) (post : Int32 → St → Prop) (K64 : (Int32 × Int32 × St) → Prop) (v1 : Int32) (v3 : Int32) (g : St) : Prop := ((61 ≤ v3 → vp_in v1 4 ∧ (vp_in v1 4 ∧ (vp_in v1 4 ∧ (post ((sA g 10 (upd (g.1 10) (Int32.toNatClampNeg v1) (g.1 12 (Int32.toNatClampNeg v1)))).1 10 (Int32.toNatClampNeg v1)) (sA g 10 (upd (g.1 10) (Int32.toNatClampNeg v1) (g.1 12 (Int32.toNatClampNeg v1)))))))) ∧ (¬ 61 ≤ v3 → vp_in ((61 * v1) + v3) 244 ∧ (vp_in ((61 * v1) + v3) 244 ∧ (K64 (v1, (v3 + 1), (sA g 9 (upd (g.1 9) (Int32.toNatClampNeg ((61 * v1) + v3)) (g.1 11 (Int32.toNatClampNeg ((61 * v1) + v3))))))))))
def J_X7_load_43 (x1 : Int32) (post : Int32 → St → Prop) (K14 : (Int32 × Int32 × Int32 × St) → Prop) (v1 : Int32) (v3 : Int32) (t0 : Int32) (t1 : Int32) (g : St) : Prop := K14 (v1, (t1 &&& t0), (v3 + 1), g)
def J_X7_load_14 (x1 : Int32) (post : Int32 → St → Prop) (K14 : (Int32 × Int32 × Int32 × St) → Prop) (v1 : Int32) (v2 : Int32) (v3 : Int32) (g : St) : Prop := V_X7_blocksOf v1 g (fun r4 g3 => ((r4 ≤ v3 → V_X7_no v2 3 g3 (fun r6 g5 => ((r6 = 0 → lpP (fun K64 (z : Int32 × Int32 × St) => J_X7_load_64 x1 post K64 z.1 z.2.1 z.2.2) (v1, 0, g5)) ∧ (¬ r6 = 0 → post 0 g5)))) ∧ (¬ r4 ≤ v3 → vp_in ((16 * v1) + v3) 64 ∧ (((¬ (g3.1 13 (Int32.toNatClampNeg ((16 * v1) + v3))) = 0 → J_X7_load_43 x1 post K14 v1 v3 0 v2 g3) ∧ ((g3.1 13 (Int32.toNatClampNeg ((16 * v1) + v3))) = 0 → J_X7_load_43 x1 post K14 v1 v3 1 v2 g3))))))
def V_X7_load (x1 : Int32) (g : St) (post : Int32 → St → Prop) : Prop := V_X7_noSave x1 g (fun r2 g1 => ((r2 = 0 → lpP (fun K14 (z : Int32 × Int32 × Int32 × St) => J_X7_load_14 x1 post K14 z.1 z.2.1 z.2.2.1 z.2.2.2) (x1, 1, 0, g1)) ∧ (¬ r2 = 0 → post 0 g1)))
abbrev rm_X7_load : Room := { frames := 3, cells := 0, slots := 0, locals := 64 }
set_option maxHeartbeats 4000000 in
set_option maxRecDepth 100000 in
theorem c_X7_load (l : Launch) (D : va_G) (cs az a : Nat → Nat) (x1 : Int32) (g : St) (post : Int32 → St → Prop) (hv : V_X7_load x1 g post) : uMi l yX7_load wsX7_load rm_X7_load D cs az (mW cs a) [.ref (a 0), .int x1] g post := by
  refine u_ofI (cc := cX7_load) (maxL := 4) (by decide) rfl (Nat.le_of_ble_eq_true rfl) ?_
  intro p e s m args below meth c F ls hC hr hk hl hE
  have hx := hC.1.1; have hb := hC.1.2.1; have hml := hC.1.2.2.1; have hts := hC.1.2.2.2.2
  have hown : s.vm.findClass RX7 = some m.cls := hC.1.2.2.2.1
  have hl : lv_has ls 4 [(0, .ref (a 0)), (1, .int x1)] := hl
  unfold V_X7_load at hv
  have j_64 : ∀ (v1 : Int32) (v3 : Int32) (g : St), lpP (fun K64 (z : Int32 × Int32 × St) => J_X7_load_64 x1 post K64 z.1 z.2.1 z.2.2) (v1, v3, g) → ∀ (H : Heap) (locs : List Loc) (ls : Array Slot), uE D 16 mA (mO a) cs a F s g H locs → lv_has ls 4 [(0, .ref (a 0)), (1, .int v1), (3, .int v3)] → W p l e rm_X7_load s m args below meth c H locs 0 0 (MQ below (va_Qi post (uB D (uW 16 mA (mO a) cs a)) F) args s 0 0 F) (F0 m 64 ls []) := by
    intro  v1 v3 g  hv
    obtain ⟨nn, hv⟩ := hv
    induction nn generalizing v1 v3 g with
    | zero => exact False.elim hv
    | succ nn hK64 =>
      intro H locs ls hE hl
      have hv : J_X7_load_64 x1 post (itP _ nn) v1 v3 g := hv
      unfold J_X7_load_64 at hv
      refine lv_iload_n hx hb dX7_load_64 rfl (lv_at hl 2 rfl) ?_
      refine lv_bipush (v := 61) hx hb dX7_load_65 (by decide) ?_
      refine lv_icmp_ge (tgt := 98) hx hb dX7_load_67 (by decide) (fun c => ?_) (fun c => ?_)
      · have hv := hv.1 c
        refine lv_aload_n hx hb dX7_load_98 rfl (lv_at hl 0 rfl) ?_
        refine G_get (v := .ref (a 10)) hC hE (fun _ h => List.mem_cons_of_mem _ (List.mem_append_left _ (List.mem_append_right _ h))) f_model rfl 9 (by decide) (hts (.fieldLink RX7 39 "SeedBattleModel" "size" "[I") (List.mem_of_getElem? (i := 4) rfl)) rfl dX7_load_99 ?_
        refine lv_iload_n hx hb dX7_load_102 rfl (lv_at hl 1 rfl) ?_
        refine lv_aload_n hx hb dX7_load_103 rfl (lv_at hl 0 rfl) ?_
        refine G_get (v := .ref (a 12)) hC hE (fun _ h => List.mem_cons_of_mem _ (List.mem_append_left _ (List.mem_append_right _ h))) f_model rfl 11 (by decide) (hts (.fieldLink RX7 45 "SeedBattleModel" "savedSize" "[I") (List.mem_of_getElem? (i := 5) rfl)) rfl dX7_load_104 ?_
        refine lv_iload_n hx hb dX7_load_107 rfl (lv_at hl 1 rfl) ?_
        refine G_iald hC hE f_m_savedSize hv.1 dX7_load_108 ?_
        have hv := hv.2
        refine G_iast hC hE f_m_size hv.1 dX7_load_109 (fun H locs hE => ?_)
        have hv := hv.2
        refine lv_aload_n hx hb dX7_load_110 rfl (lv_at hl 0 rfl) ?_
        refine G_get (v := .ref (a 10)) hC hE (fun _ h => List.mem_cons_of_mem _ (List.mem_append_left _ (List.mem_append_right _ h))) f_model rfl 9 (by decide) (hts (.fieldLink RX7 39 "SeedBattleModel" "size" "[I") (List.mem_of_getElem? (i := 4) rfl)) rfl dX7_load_111 ?_
        refine lv_iload_n hx hb dX7_load_114 rfl (lv_at hl 1 rfl) ?_
        refine G_iald hC hE f_m_size hv.1 dX7_load_115 ?_
        have hv := hv.2
        exact G_iret hC hr hk hE hv dX7_load_116
      · have hv := hv.2 c
        refine lv_aload_n hx hb dX7_load_70 rfl (lv_at hl 0 rfl) ?_
        refine G_get (v := .ref (a 9)) hC hE (fun _ h => List.mem_cons_of_mem _ (List.mem_append_left _ (List.mem_append_right _ h))) f_model rfl 8 (by decide) (hts (.fieldLink RX7 36 "SeedBattleModel" "index" "[I") (List.mem_of_getElem? (i := 2) rfl)) rfl dX7_load_71 ?_
        refine lv_bipush (v := 61) hx hb dX7_load_74 (by decide) ?_
        refine lv_iload_n hx hb dX7_load_76 rfl (lv_at hl 1 rfl) ?_
        refine lv_imul hx hb dX7_load_77 ?_
        refine lv_iload_n hx hb dX7_load_78 rfl (lv_at hl 2 rfl) ?_
        refine lv_iadd hx hb dX7_load_79 ?_
        refine lv_aload_n hx hb dX7_load_80 rfl (lv_at hl 0 rfl) ?_
        refine G_get (v := .ref (a 11)) hC hE (fun _ h => List.mem_cons_of_mem _ (List.mem_append_left _ (List.mem_append_right _ h))) f_model rfl 10 (by decide) (hts (.fieldLink RX7 42 "SeedBattleModel" "saved" "[I") (List.mem_of_getElem? (i := 3) rfl)) rfl dX7_load_81 ?_
        refine lv_bipush (v := 61) hx hb dX7_load_84 (by decide) ?_
        refine lv_iload_n hx hb dX7_load_86 rfl (lv_at hl 1 rfl) ?_
        refine lv_imul hx hb dX7_load_87 ?_
        refine lv_iload_n hx hb dX7_load_88 rfl (lv_at hl 2 rfl) ?_
        refine lv_iadd hx hb dX7_load_89 ?_
        refine G_iald hC hE f_m_saved hv.1 dX7_load_90 ?_
        have hv := hv.2
        refine G_iast hC hE f_m_index hv.1 dX7_load_91 (fun H locs hE => ?_)
        have hv := hv.2
        refine lv_iinc (v := (v3 + 1)) (lv' := [(3, .int (v3 + 1)), (0, .ref (a 0)), (1, .int v1)]) hx hb dX7_load_92 hl (k := 2) rfl rfl (by decide) rfl (fun ls hl => ?_)
        refine lv_goto (tgt := 64) hx hb dX7_load_95 (by decide) ?_
        exact hK64 _ _ _  hv _ _ _ hE (lv_sub hl [1, 2, 0] rfl)
  have j_43 : ∀ (K14 : (Int32 × Int32 × Int32 × St) → Prop), (∀ (v1 : Int32) (v2 : Int32) (v3 : Int32) (g : St), K14 (v1, v2, v3, g) → ∀ (H : Heap) (locs : List Loc) (ls : Array Slot), uE D 16 mA (mO a) cs a F s g H locs → lv_has ls 4 [(0, .ref (a 0)), (1, .int v1), (2, .int v2), (3, .int v3)] → W p l e rm_X7_load s m args below meth c H locs 0 0 (MQ below (va_Qi post (uB D (uW 16 mA (mO a) cs a)) F) args s 0 0 F) (F0 m 14 ls [])) → ∀ (v1 : Int32) (v3 : Int32) (t0 : Int32) (t1 : Int32) (g : St), J_X7_load_43 x1 post K14 v1 v3 t0 t1 g → ∀ (H : Heap) (locs : List Loc) (ls : Array Slot), uE D 16 mA (mO a) cs a F s g H locs → lv_has ls 4 [(0, .ref (a 0)), (1, .int v1), (3, .int v3)] → W p l e rm_X7_load s m args below meth c H locs 0 0 (MQ below (va_Qi post (uB D (uW 16 mA (mO a) cs a)) F) args s 0 0 F) (F0 m 43 ls [.int t0, .int t1]) := by
    intro K14 hK14 v1 v3 t0 t1 g  hv
    intro H locs ls hE hl
    unfold J_X7_load_43 at hv
    refine lv_iand hx hb dX7_load_43 ?_
    refine lv_istore_n (lv' := [(2, .int (t1 &&& t0)), (0, .ref (a 0)), (1, .int v1), (3, .int v3)]) hx hb dX7_load_44 rfl hl (by decide) rfl (fun ls hl => ?_)
    refine lv_iinc (v := (v3 + 1)) (lv' := [(3, .int (v3 + 1)), (2, .int (t1 &&& t0)), (0, .ref (a 0)), (1, .int v1)]) hx hb dX7_load_45 hl (k := 3) rfl rfl (by decide) rfl (fun ls hl => ?_)
    refine lv_goto (tgt := 14) hx hb dX7_load_48 (by decide) ?_
    exact hK14 _ _ _ _  hv _ _ _ hE (lv_sub hl [2, 3, 1, 0] rfl)
  have j_14 : ∀ (v1 : Int32) (v2 : Int32) (v3 : Int32) (g : St), lpP (fun K14 (z : Int32 × Int32 × Int32 × St) => J_X7_load_14 x1 post K14 z.1 z.2.1 z.2.2.1 z.2.2.2) (v1, v2, v3, g) → ∀ (H : Heap) (locs : List Loc) (ls : Array Slot), uE D 16 mA (mO a) cs a F s g H locs → lv_has ls 4 [(0, .ref (a 0)), (1, .int v1), (2, .int v2), (3, .int v3)] → W p l e rm_X7_load s m args below meth c H locs 0 0 (MQ below (va_Qi post (uB D (uW 16 mA (mO a) cs a)) F) args s 0 0 F) (F0 m 14 ls []) := by
    intro  v1 v2 v3 g  hv
    obtain ⟨nn, hv⟩ := hv
    induction nn generalizing v1 v2 v3 g with
    | zero => exact False.elim hv
    | succ nn hK14 =>
      intro H locs ls hE hl
      have hv : J_X7_load_14 x1 post (itP _ nn) v1 v2 v3 g := hv
      unfold J_X7_load_14 at hv
      refine lv_iload_n hx hb dX7_load_14 rfl (lv_at hl 3 rfl) ?_
      refine lv_aload_n hx hb dX7_load_15 rfl (lv_at hl 0 rfl) ?_
      refine lv_iload_n hx hb dX7_load_16 rfl (lv_at hl 1 rfl) ?_
      refine G_callVi hC (c_X7_blocksOf l D cs az a v1 g _ hv) (cwV 1 hts gX7_load_X7_blocksOf rfl rfl rfl (by decide +kernel) ⟨Nat.le_of_ble_eq_true rfl, Nat.le_of_ble_eq_true rfl⟩) f_model rfl rfl hl rfl (Nat.le_of_ble_eq_true rfl) dX7_load_17 hE (fun r4 g3 H locs hv hE => ?_)
      refine lv_icmp_ge (tgt := 51) hx hb dX7_load_20 (by decide) (fun c => ?_) (fun c => ?_)
      · have hv := hv.1 c
        refine lv_aload_n hx hb dX7_load_51 rfl (lv_at hl 0 rfl) ?_
        refine lv_iload_n hx hb dX7_load_52 rfl (lv_at hl 2 rfl) ?_
        refine lv_iconst (v := 3) hx hb dX7_load_53 (by decide) ?_
        refine G_callVi hC (c_X7_no l D cs az a v2 3 g3 _ hv) (cwV 2 hts gX7_load_X7_no rfl rfl rfl (by decide +kernel) ⟨Nat.le_of_ble_eq_true rfl, Nat.le_of_ble_eq_true rfl⟩) f_model rfl rfl hl rfl (Nat.le_of_ble_eq_true rfl) dX7_load_54 hE (fun r6 g5 H locs hv hE => ?_)
        refine lv_if_eq (tgt := 62) hx hb dX7_load_57 (by decide) (fun c => ?_) (fun c => ?_)
        · have hv := hv.1 c
          refine lv_iconst (v := 0) hx hb dX7_load_62 (by decide) ?_
          refine lv_istore_n (lv' := [(3, .int 0), (0, .ref (a 0)), (1, .int v1), (2, .int v2)]) hx hb dX7_load_63 rfl hl (by decide) rfl (fun ls hl => ?_)
          exact j_64  _ _ _  hv _ _ _ hE (lv_sub hl [1, 2, 0] rfl)
        · have hv := hv.2 c
          refine lv_iconst (v := 0) hx hb dX7_load_60 (by decide) ?_
          exact G_iret hC hr hk hE hv dX7_load_61
      · have hv := hv.2 c
        refine lv_iload_n hx hb dX7_load_23 rfl (lv_at hl 2 rfl) ?_
        refine lv_aload_n hx hb dX7_load_24 rfl (lv_at hl 0 rfl) ?_
        refine G_get (v := .ref (a 13)) hC hE (fun _ h => List.mem_cons_of_mem _ (List.mem_append_left _ (List.mem_append_right _ h))) f_model rfl 12 (by decide) (hts (.fieldLink RX7 48 "SeedBattleModel" "broken" "[Z") (List.mem_of_getElem? (i := 1) rfl)) rfl dX7_load_25 ?_
        refine lv_bipush (v := 16) hx hb dX7_load_28 (by decide) ?_
        refine lv_iload_n hx hb dX7_load_30 rfl (lv_at hl 1 rfl) ?_
        refine lv_imul hx hb dX7_load_31 ?_
        refine lv_iload_n hx hb dX7_load_32 rfl (lv_at hl 3 rfl) ?_
        refine lv_iadd hx hb dX7_load_33 ?_
        refine G_zald hC hE f_m_broken hv.1 dX7_load_34 ?_
        have hv := hv.2
        refine lv_if_ne (tgt := 42) hx hb dX7_load_35 (by decide) (fun c => ?_) (fun c => ?_)
        · have hv := hv.1 c
          refine lv_iconst (v := 0) hx hb dX7_load_42 (by decide) ?_
          exact j_43 _ hK14 _ _ _ _ _  hv _ _ _ hE (lv_sub hl [0, 1, 3] rfl)
        · have hv := hv.2 c
          refine lv_iconst (v := 1) hx hb dX7_load_38 (by decide) ?_
          refine lv_goto (tgt := 43) hx hb dX7_load_39 (by decide) ?_
          exact j_43 _ hK14 _ _ _ _ _  hv _ _ _ hE (lv_sub hl [0, 1, 3] rfl)
  refine lv_aload_n hx hb dX7_load_0 rfl (lv_at hl 0 rfl) ?_
  refine lv_iload_n hx hb dX7_load_1 rfl (lv_at hl 1 rfl) ?_
  refine G_callVi hC (c_X7_noSave l D cs az a x1 g _ hv) (cwV 1 hts gX7_load_X7_noSave rfl rfl rfl (by decide +kernel) ⟨Nat.le_of_ble_eq_true rfl, Nat.le_of_ble_eq_true rfl⟩) f_model rfl rfl hl rfl (Nat.le_of_ble_eq_true rfl) dX7_load_2 hE (fun r2 g1 H locs hv hE => ?_)
  refine lv_if_eq (tgt := 10) hx hb dX7_load_5 (by decide) (fun c => ?_) (fun c => ?_)
  · have hv := hv.1 c
    refine lv_iconst (v := 1) hx hb dX7_load_10 (by decide) ?_
    refine lv_istore_n (lv' := [(2, .int 1), (0, .ref (a 0)), (1, .int x1)]) hx hb dX7_load_11 rfl hl (by decide) rfl (fun ls hl => ?_)
    refine lv_iconst (v := 0) hx hb dX7_load_12 (by decide) ?_
    refine lv_istore_n (lv' := [(3, .int 0), (2, .int 1), (0, .ref (a 0)), (1, .int x1)]) hx hb dX7_load_13 rfl hl (by decide) rfl (fun ls hl => ?_)
    exact j_14  _ _ _ _  hv _ _ _ hE (lv_sub hl [2, 3, 1, 0] rfl)
  · have hv := hv.2 c
    refine lv_iconst (v := 0) hx hb dX7_load_8 (by decide) ?_
    exact G_iret hC hr hk hE hv dX7_load_9
def J_X7_allies_38 (x1 : Int32) (post : Int32 → St → Prop) (K14 : (Int32 × Int32 × Int32 × St) → Prop) (v1 : Int32) (v3 : Int32) (t0 : Int32) (t1 : Int32) (g : St) : Prop := K14 (v1, (t1 + t0), (v3 + 1), g)
def J_X7_allies_14 (x1 : Int32) (post : Int32 → St → Prop) (K14 : (Int32 × Int32 × Int32 × St) → Prop) (v1 : Int32) (v2 : Int32) (v3 : Int32) (g : St) : Prop := ((4 ≤ v3 → post v2 g) ∧ (¬ 4 ≤ v3 → vp_in ((4 * v1) + v3) 16 ∧ ((((g.1 14 (Int32.toNatClampNeg ((4 * v1) + v3))) = 0 → J_X7_allies_38 x1 post K14 v1 v3 0 v2 g) ∧ (¬ (g.1 14 (Int32.toNatClampNeg ((4 * v1) + v3))) = 0 → J_X7_allies_38 x1 post K14 v1 v3 1 v2 g)))))
def V_X7_allies (x1 : Int32) (g : St) (post : Int32 → St → Prop) : Prop := V_X7_noSave x1 g (fun r2 g1 => ((r2 = 0 → lpP (fun K14 (z : Int32 × Int32 × Int32 × St) => J_X7_allies_14 x1 post K14 z.1 z.2.1 z.2.2.1 z.2.2.2) (x1, 0, 0, g1)) ∧ (¬ r2 = 0 → post 0 g1)))
abbrev rm_X7_allies : Room := { frames := 3, cells := 0, slots := 0, locals := 64 }
set_option maxHeartbeats 4000000 in
set_option maxRecDepth 100000 in
theorem c_X7_allies (l : Launch) (D : va_G) (cs az a : Nat → Nat) (x1 : Int32) (g : St) (post : Int32 → St → Prop) (hv : V_X7_allies x1 g post) : uMi l yX7_allies wsX7_allies rm_X7_allies D cs az (mW cs a) [.ref (a 0), .int x1] g post := by
  refine u_ofI (cc := cX7_allies) (maxL := 4) (by decide) rfl (Nat.le_of_ble_eq_true rfl) ?_
  intro p e s m args below meth c F ls hC hr hk hl hE
  have hx := hC.1.1; have hb := hC.1.2.1; have hml := hC.1.2.2.1; have hts := hC.1.2.2.2.2
  have hown : s.vm.findClass RX7 = some m.cls := hC.1.2.2.2.1
  have hl : lv_has ls 4 [(0, .ref (a 0)), (1, .int x1)] := hl
  unfold V_X7_allies at hv
  have j_38 : ∀ (K14 : (Int32 × Int32 × Int32 × St) → Prop), (∀ (v1 : Int32) (v2 : Int32) (v3 : Int32) (g : St), K14 (v1, v2, v3, g) → ∀ (H : Heap) (locs : List Loc) (ls : Array Slot), uE D 16 mA (mO a) cs a F s g H locs → lv_has ls 4 [(0, .ref (a 0)), (1, .int v1), (2, .int v2), (3, .int v3)] → W p l e rm_X7_allies s m args below meth c H locs 0 0 (MQ below (va_Qi post (uB D (uW 16 mA (mO a) cs a)) F) args s 0 0 F) (F0 m 14 ls [])) → ∀ (v1 : Int32) (v3 : Int32) (t0 : Int32) (t1 : Int32) (g : St), J_X7_allies_38 x1 post K14 v1 v3 t0 t1 g → ∀ (H : Heap) (locs : List Loc) (ls : Array Slot), uE D 16 mA (mO a) cs a F s g H locs → lv_has ls 4 [(0, .ref (a 0)), (1, .int v1), (3, .int v3)] → W p l e rm_X7_allies s m args below meth c H locs 0 0 (MQ below (va_Qi post (uB D (uW 16 mA (mO a) cs a)) F) args s 0 0 F) (F0 m 38 ls [.int t0, .int t1]) := by
    intro K14 hK14 v1 v3 t0 t1 g  hv
    intro H locs ls hE hl
    unfold J_X7_allies_38 at hv
    refine lv_iadd hx hb dX7_allies_38 ?_
    refine lv_istore_n (lv' := [(2, .int (t1 + t0)), (0, .ref (a 0)), (1, .int v1), (3, .int v3)]) hx hb dX7_allies_39 rfl hl (by decide) rfl (fun ls hl => ?_)
    refine lv_iinc (v := (v3 + 1)) (lv' := [(3, .int (v3 + 1)), (2, .int (t1 + t0)), (0, .ref (a 0)), (1, .int v1)]) hx hb dX7_allies_40 hl (k := 3) rfl rfl (by decide) rfl (fun ls hl => ?_)
    refine lv_goto (tgt := 14) hx hb dX7_allies_43 (by decide) ?_
    exact hK14 _ _ _ _  hv _ _ _ hE (lv_sub hl [2, 3, 1, 0] rfl)
  have j_14 : ∀ (v1 : Int32) (v2 : Int32) (v3 : Int32) (g : St), lpP (fun K14 (z : Int32 × Int32 × Int32 × St) => J_X7_allies_14 x1 post K14 z.1 z.2.1 z.2.2.1 z.2.2.2) (v1, v2, v3, g) → ∀ (H : Heap) (locs : List Loc) (ls : Array Slot), uE D 16 mA (mO a) cs a F s g H locs → lv_has ls 4 [(0, .ref (a 0)), (1, .int v1), (2, .int v2), (3, .int v3)] → W p l e rm_X7_allies s m args below meth c H locs 0 0 (MQ below (va_Qi post (uB D (uW 16 mA (mO a) cs a)) F) args s 0 0 F) (F0 m 14 ls []) := by
    intro  v1 v2 v3 g  hv
    obtain ⟨nn, hv⟩ := hv
    induction nn generalizing v1 v2 v3 g with
    | zero => exact False.elim hv
    | succ nn hK14 =>
      intro H locs ls hE hl
      have hv : J_X7_allies_14 x1 post (itP _ nn) v1 v2 v3 g := hv
      unfold J_X7_allies_14 at hv
      refine lv_iload_n hx hb dX7_allies_14 rfl (lv_at hl 3 rfl) ?_
      refine lv_iconst (v := 4) hx hb dX7_allies_15 (by decide) ?_
      refine lv_icmp_ge (tgt := 46) hx hb dX7_allies_16 (by decide) (fun c => ?_) (fun c => ?_)
      · have hv := hv.1 c
        refine lv_iload_n hx hb dX7_allies_46 rfl (lv_at hl 2 rfl) ?_
        exact G_iret hC hr hk hE hv dX7_allies_47
      · have hv := hv.2 c
        refine lv_iload_n hx hb dX7_allies_19 rfl (lv_at hl 2 rfl) ?_
        refine lv_aload_n hx hb dX7_allies_20 rfl (lv_at hl 0 rfl) ?_
        refine G_get (v := .ref (a 14)) hC hE (fun _ h => List.mem_cons_of_mem _ (List.mem_append_left _ (List.mem_append_right _ h))) f_model rfl 13 (by decide) (hts (.fieldLink RX7 51 "SeedBattleModel" "ally" "[Z") (List.mem_of_getElem? (i := 1) rfl)) rfl dX7_allies_21 ?_
        refine lv_iconst (v := 4) hx hb dX7_allies_24 (by decide) ?_
        refine lv_iload_n hx hb dX7_allies_25 rfl (lv_at hl 1 rfl) ?_
        refine lv_imul hx hb dX7_allies_26 ?_
        refine lv_iload_n hx hb dX7_allies_27 rfl (lv_at hl 3 rfl) ?_
        refine lv_iadd hx hb dX7_allies_28 ?_
        refine G_zald hC hE f_m_ally hv.1 dX7_allies_29 ?_
        have hv := hv.2
        refine lv_if_eq (tgt := 37) hx hb dX7_allies_30 (by decide) (fun c => ?_) (fun c => ?_)
        · have hv := hv.1 c
          refine lv_iconst (v := 0) hx hb dX7_allies_37 (by decide) ?_
          exact j_38 _ hK14 _ _ _ _ _  hv _ _ _ hE (lv_sub hl [0, 1, 3] rfl)
        · have hv := hv.2 c
          refine lv_iconst (v := 1) hx hb dX7_allies_33 (by decide) ?_
          refine lv_goto (tgt := 38) hx hb dX7_allies_34 (by decide) ?_
          exact j_38 _ hK14 _ _ _ _ _  hv _ _ _ hE (lv_sub hl [0, 1, 3] rfl)
  refine lv_aload_n hx hb dX7_allies_0 rfl (lv_at hl 0 rfl) ?_
  refine lv_iload_n hx hb dX7_allies_1 rfl (lv_at hl 1 rfl) ?_
  refine G_callVi hC (c_X7_noSave l D cs az a x1 g _ hv) (cwV 1 hts gX7_allies_X7_noSave rfl rfl rfl (by decide +kernel) ⟨Nat.le_of_ble_eq_true rfl, Nat.le_of_ble_eq_true rfl⟩) f_model rfl rfl hl rfl (Nat.le_of_ble_eq_true rfl) dX7_allies_2 hE (fun r2 g1 H locs hv hE => ?_)
  refine lv_if_eq (tgt := 10) hx hb dX7_allies_5 (by decide) (fun c => ?_) (fun c => ?_)
  · have hv := hv.1 c
    refine lv_iconst (v := 0) hx hb dX7_allies_10 (by decide) ?_
    refine lv_istore_n (lv' := [(2, .int 0), (0, .ref (a 0)), (1, .int x1)]) hx hb dX7_allies_11 rfl hl (by decide) rfl (fun ls hl => ?_)
    refine lv_iconst (v := 0) hx hb dX7_allies_12 (by decide) ?_
    refine lv_istore_n (lv' := [(3, .int 0), (2, .int 0), (0, .ref (a 0)), (1, .int x1)]) hx hb dX7_allies_13 rfl hl (by decide) rfl (fun ls hl => ?_)
    exact j_14  _ _ _ _  hv _ _ _ hE (lv_sub hl [2, 3, 1, 0] rfl)
  · have hv := hv.2 c
    refine lv_iconst (v := 0) hx hb dX7_allies_8 (by decide) ?_
    exact G_iret hC hr hk hE hv dX7_allies_9
def J_X7_checksum_4  (post : Int64 → St → Prop) (K4 : (Int64 × Int32 × St) → Prop) (v1 : Int64) (v3 : Int32) (g : St) : Prop := (((g.2 2) ≤ v3 → post v1 g) ∧ (¬ (g.2 2) ≤ v3 → vp_in v3 24 ∧ (K4 (((31 * v1) + (Int32.toInt64 (g.1 2 (Int32.toNatClampNeg v3)))), (v3 + 1), g))))
def V_X7_checksum  (g : St) (post : Int64 → St → Prop) : Prop := lpP (fun K4 (z : Int64 × Int32 × St) => J_X7_checksum_4 post K4 z.1 z.2.1 z.2.2) (0, 0, g)
abbrev rm_X7_checksum : Room := { frames := 0, cells := 0, slots := 0, locals := 0 }
set_option maxHeartbeats 4000000 in
set_option maxRecDepth 100000 in
theorem c_X7_checksum (l : Launch) (D : va_G) (cs az a : Nat → Nat)  (g : St) (post : Int64 → St → Prop) (hv : V_X7_checksum  g post) : uMl l yX7_checksum wsX7_checksum rm_X7_checksum D cs az (mW cs a) [.ref (a 0)] g post := by
  refine u_ofL (cc := cX7_checksum) (maxL := 4) (by decide) rfl (Nat.le_of_ble_eq_true rfl) ?_
  intro p e s m args below meth c F ls hC hr hk hl hE
  have hx := hC.1.1; have hb := hC.1.2.1; have hml := hC.1.2.2.1; have hts := hC.1.2.2.2.2
  have hown : s.vm.findClass RX7 = some m.cls := hC.1.2.2.2.1
  have hl : lv_has ls 4 [(0, .ref (a 0))] := hl
  unfold V_X7_checksum at hv
  have j_4 : ∀ (v1 : Int64) (v3 : Int32) (g : St), lpP (fun K4 (z : Int64 × Int32 × St) => J_X7_checksum_4 post K4 z.1 z.2.1 z.2.2) (v1, v3, g) → ∀ (H : Heap) (locs : List Loc) (ls : Array Slot), uE D 16 mA (mO a) cs a F s g H locs → lv_has ls 4 [(0, .ref (a 0)), (1, .long v1), (3, .int v3)] → W p l e rm_X7_checksum s m args below meth c H locs 0 0 (MQ below (va_Ql post (uB D (uW 16 mA (mO a) cs a)) F) args s 0 0 F) (F0 m 4 ls []) := by
    intro  v1 v3 g  hv
    obtain ⟨nn, hv⟩ := hv
    induction nn generalizing v1 v3 g with
    | zero => exact False.elim hv
    | succ nn hK4 =>
      intro H locs ls hE hl
      have hv : J_X7_checksum_4 post (itP _ nn) v1 v3 g := hv
      unfold J_X7_checksum_4 at hv
      refine lv_iload_n hx hb dX7_checksum_4 rfl (lv_at hl 2 rfl) ?_
      refine lv_aload_n hx hb dX7_checksum_5 rfl (lv_at hl 0 rfl) ?_
      refine G_get (v := .int (g.2 2)) hC hE (fun _ h => List.mem_cons_of_mem _ (List.mem_append_left _ (List.mem_append_right _ h))) f_model rfl 17 (by decide) (hts (.fieldLink RX7 65 "SeedBattleModel" "units" "I") (List.mem_of_getElem? (i := 1) rfl)) rfl dX7_checksum_6 ?_
      refine lv_icmp_ge (tgt := 32) hx hb dX7_checksum_9 (by decide) (fun c => ?_) (fun c => ?_)
      · have hv := hv.1 c
        refine lv_lload_n hx hb dX7_checksum_32 rfl (lv_at hl 1 rfl) ?_
        exact G_lret hC hr hk hE hv dX7_checksum_33
      · have hv := hv.2 c
        refine lv_ldc2 (v := 31) hx hb hown (hts (.constantLong RX7 187 (31)) (List.mem_of_getElem? (i := 2) rfl)) dX7_checksum_12 ?_
        refine lv_lload_n hx hb dX7_checksum_15 rfl (lv_at hl 1 rfl) ?_
        refine lv_lmul hx hb dX7_checksum_16 ?_
        refine lv_aload_n hx hb dX7_checksum_17 rfl (lv_at hl 0 rfl) ?_
        refine G_get (v := .ref (a 2)) hC hE (fun _ h => List.mem_cons_of_mem _ (List.mem_append_left _ (List.mem_append_right _ h))) f_model rfl 1 (by decide) (hts (.fieldLink RX7 13 "SeedBattleModel" "cell" "[I") (List.mem_of_getElem? (i := 3) rfl)) rfl dX7_checksum_18 ?_
        refine lv_iload_n hx hb dX7_checksum_21 rfl (lv_at hl 2 rfl) ?_
        refine G_iald hC hE f_m_cell hv.1 dX7_checksum_22 ?_
        have hv := hv.2
        refine lv_i2l (v := (Int32.toInt64 (g.1 2 (Int32.toNatClampNeg v3)))) hx hb dX7_checksum_23 rfl ?_
        refine lv_ladd hx hb dX7_checksum_24 ?_
        refine lv_lstore_n (lv' := [(1, .long ((31 * v1) + (Int32.toInt64 (g.1 2 (Int32.toNatClampNeg v3))))), (0, .ref (a 0)), (3, .int v3)]) hx hb dX7_checksum_25 rfl hl (by decide) rfl (fun ls hl => ?_)
        refine lv_iinc (v := (v3 + 1)) (lv' := [(3, .int (v3 + 1)), (1, .long ((31 * v1) + (Int32.toInt64 (g.1 2 (Int32.toNatClampNeg v3))))), (0, .ref (a 0))]) hx hb dX7_checksum_26 hl (k := 2) rfl rfl (by decide) rfl (fun ls hl => ?_)
        refine lv_goto (tgt := 4) hx hb dX7_checksum_29 (by decide) ?_
        exact hK4 _ _ _  hv _ _ _ hE (lv_sub hl [2, 1, 0] rfl)
  refine lv_lconst (v := 0) hx hb dX7_checksum_0 (by decide) ?_
  refine lv_lstore_n (lv' := [(1, .long 0), (0, .ref (a 0))]) hx hb dX7_checksum_1 rfl hl (by decide) rfl (fun ls hl => ?_)
  refine lv_iconst (v := 0) hx hb dX7_checksum_2 (by decide) ?_
  refine lv_istore_n (lv' := [(3, .int 0), (1, .long 0), (0, .ref (a 0))]) hx hb dX7_checksum_3 rfl hl (by decide) rfl (fun ls hl => ?_)
  exact j_4  _ _ _  hv _ _ _ hE (lv_sub hl [2, 1, 0] rfl)
def V_X7_isSound  (g : St) (post : Int32 → St → Prop) : Prop := post 1 g
abbrev rm_X7_isSound : Room := { frames := 0, cells := 0, slots := 0, locals := 0 }
set_option maxHeartbeats 4000000 in
set_option maxRecDepth 100000 in
theorem c_X7_isSound (l : Launch) (D : va_G) (cs az a : Nat → Nat)  (g : St) (post : Int32 → St → Prop) (hv : V_X7_isSound  g post) : uMi l yX7_isSound wsX7_isSound rm_X7_isSound D cs az (mW cs a) [.ref (a 0)] g post := by
  refine u_ofI (cc := cX7_isSound) (maxL := 1) (by decide) rfl (Nat.le_of_ble_eq_true rfl) ?_
  intro p e s m args below meth c F ls hC hr hk hl hE
  have hx := hC.1.1; have hb := hC.1.2.1; have hml := hC.1.2.2.1; have hts := hC.1.2.2.2.2
  have hown : s.vm.findClass RX7 = some m.cls := hC.1.2.2.2.1
  have hl : lv_has ls 1 [(0, .ref (a 0))] := hl
  unfold V_X7_isSound at hv
  refine lv_iconst (v := 1) hx hb dX7_isSound_0 (by decide) ?_
  exact G_zret hC hr hk hE rfl hv dX7_isSound_1
