def V_J6_bitCount_0f7a4 (x1 : Int32) (post : Int32 → Prop) : Prop := ∀ y1 : Int32, y1 = (x1 - (((Int32.toUInt32 x1 >>> (Int32.toUInt32 1 &&& Int32.toUInt32 31)).toInt32) &&& 1431655765)) → ∀ y2 : Int32, y2 = ((y1 &&& 858993459) + (((Int32.toUInt32 y1 >>> (Int32.toUInt32 2 &&& Int32.toUInt32 31)).toInt32) &&& 858993459)) → ∀ y3 : Int32, y3 = ((y2 + ((Int32.toUInt32 y2 >>> (Int32.toUInt32 4 &&& Int32.toUInt32 31)).toInt32)) &&& 252645135) → ∀ y4 : Int32, y4 = (y3 + ((Int32.toUInt32 y3 >>> (Int32.toUInt32 8 &&& Int32.toUInt32 31)).toInt32)) → ∀ y5 : Int32, y5 = (y4 + ((Int32.toUInt32 y4 >>> (Int32.toUInt32 16 &&& Int32.toUInt32 31)).toInt32)) → post (y5 &&& 63)
abbrev rm_J6_bitCount_0f7a4 : Room := { frames := 0, cells := 0, slots := 0, locals := 0 }
set_option maxHeartbeats 4000000 in
set_option maxRecDepth 100000 in
theorem c_J6_bitCount_0f7a4 (l : Launch) (x1 : Int32) (post : Int32 → Prop) (hv : V_J6_bitCount_0f7a4 x1 post) : uMs l yJ6_bitCount_0f7a4 wsJ6_bitCount_0f7a4 rm_J6_bitCount_0f7a4 [.int x1] post := by
  refine u_ofS (cc := cJ6_bitCount_0f7a4) (maxL := 1) (by decide) rfl (Nat.le_of_ble_eq_true rfl) ?_
  intro p e s m args below meth c ls hC hN hr hk hl
  have hx := hC.1; have hb := hC.2.1; have hml := hC.2.2.1; have hts := hC.2.2.2.2
  have hown : s.vm.findClass RJ6 = some m.cls := hC.2.2.2.1
  have hl : lv_has ls 1 [(0, .int x1)] := hl
  unfold V_J6_bitCount_0f7a4 at hv
  refine lv_iload_n hx hb dJ6_bitCount_0f7a4_0 rfl (lv_at hl 0 rfl) ?_
  refine lv_iload_n hx hb dJ6_bitCount_0f7a4_1 rfl (lv_at hl 0 rfl) ?_
  refine lv_iconst (v := 1) hx hb dJ6_bitCount_0f7a4_2 (by decide) ?_
  refine lv_iushr (v := (Int32.toUInt32 x1 >>> (Int32.toUInt32 1 &&& Int32.toUInt32 31)).toInt32) hx hb dJ6_bitCount_0f7a4_3 rfl ?_
  refine lv_ldcw (v := 1431655765) hx hb hown (hts (.constant RJ6 265 (1431655765)) (List.mem_of_getElem? (i := 1) rfl)) dJ6_bitCount_0f7a4_4 ?_
  refine lv_iand hx hb dJ6_bitCount_0f7a4_7 ?_
  refine lv_isub hx hb dJ6_bitCount_0f7a4_8 ?_
  refine lv_topi (fun y1 ey1 => ?_)
  have hv := hv y1 ey1
  refine lv_istore_n (lv' := [(0, .int y1)]) hx hb dJ6_bitCount_0f7a4_9 rfl hl (by decide) rfl (fun ls hl => ?_)
  refine lv_iload_n hx hb dJ6_bitCount_0f7a4_10 rfl (lv_at hl 0 rfl) ?_
  refine lv_ldcw (v := 858993459) hx hb hown (hts (.constant RJ6 266 (858993459)) (List.mem_of_getElem? (i := 2) rfl)) dJ6_bitCount_0f7a4_11 ?_
  refine lv_iand hx hb dJ6_bitCount_0f7a4_14 ?_
  refine lv_iload_n hx hb dJ6_bitCount_0f7a4_15 rfl (lv_at hl 0 rfl) ?_
  refine lv_iconst (v := 2) hx hb dJ6_bitCount_0f7a4_16 (by decide) ?_
  refine lv_iushr (v := (Int32.toUInt32 y1 >>> (Int32.toUInt32 2 &&& Int32.toUInt32 31)).toInt32) hx hb dJ6_bitCount_0f7a4_17 rfl ?_
  refine lv_ldcw (v := 858993459) hx hb hown (hts (.constant RJ6 266 (858993459)) (List.mem_of_getElem? (i := 2) rfl)) dJ6_bitCount_0f7a4_18 ?_
  refine lv_iand hx hb dJ6_bitCount_0f7a4_21 ?_
  refine lv_iadd hx hb dJ6_bitCount_0f7a4_22 ?_
  refine lv_topi (fun y2 ey2 => ?_)
  have hv := hv y2 ey2
  refine lv_istore_n (lv' := [(0, .int y2)]) hx hb dJ6_bitCount_0f7a4_23 rfl hl (by decide) rfl (fun ls hl => ?_)
  refine lv_iload_n hx hb dJ6_bitCount_0f7a4_24 rfl (lv_at hl 0 rfl) ?_
  refine lv_iload_n hx hb dJ6_bitCount_0f7a4_25 rfl (lv_at hl 0 rfl) ?_
  refine lv_iconst (v := 4) hx hb dJ6_bitCount_0f7a4_26 (by decide) ?_
  refine lv_iushr (v := (Int32.toUInt32 y2 >>> (Int32.toUInt32 4 &&& Int32.toUInt32 31)).toInt32) hx hb dJ6_bitCount_0f7a4_27 rfl ?_
  refine lv_iadd hx hb dJ6_bitCount_0f7a4_28 ?_
  refine lv_ldcw (v := 252645135) hx hb hown (hts (.constant RJ6 267 (252645135)) (List.mem_of_getElem? (i := 3) rfl)) dJ6_bitCount_0f7a4_29 ?_
  refine lv_iand hx hb dJ6_bitCount_0f7a4_32 ?_
  refine lv_topi (fun y3 ey3 => ?_)
  have hv := hv y3 ey3
  refine lv_istore_n (lv' := [(0, .int y3)]) hx hb dJ6_bitCount_0f7a4_33 rfl hl (by decide) rfl (fun ls hl => ?_)
  refine lv_iload_n hx hb dJ6_bitCount_0f7a4_34 rfl (lv_at hl 0 rfl) ?_
  refine lv_iload_n hx hb dJ6_bitCount_0f7a4_35 rfl (lv_at hl 0 rfl) ?_
  refine lv_bipush (v := 8) hx hb dJ6_bitCount_0f7a4_36 (by decide) ?_
  refine lv_iushr (v := (Int32.toUInt32 y3 >>> (Int32.toUInt32 8 &&& Int32.toUInt32 31)).toInt32) hx hb dJ6_bitCount_0f7a4_38 rfl ?_
  refine lv_iadd hx hb dJ6_bitCount_0f7a4_39 ?_
  refine lv_topi (fun y4 ey4 => ?_)
  have hv := hv y4 ey4
  refine lv_istore_n (lv' := [(0, .int y4)]) hx hb dJ6_bitCount_0f7a4_40 rfl hl (by decide) rfl (fun ls hl => ?_)
  refine lv_iload_n hx hb dJ6_bitCount_0f7a4_41 rfl (lv_at hl 0 rfl) ?_
  refine lv_iload_n hx hb dJ6_bitCount_0f7a4_42 rfl (lv_at hl 0 rfl) ?_
  refine lv_bipush (v := 16) hx hb dJ6_bitCount_0f7a4_43 (by decide) ?_
  refine lv_iushr (v := (Int32.toUInt32 y4 >>> (Int32.toUInt32 16 &&& Int32.toUInt32 31)).toInt32) hx hb dJ6_bitCount_0f7a4_45 rfl ?_
  refine lv_iadd hx hb dJ6_bitCount_0f7a4_46 ?_
  refine lv_topi (fun y5 ey5 => ?_)
  have hv := hv y5 ey5
  refine lv_istore_n (lv' := [(0, .int y5)]) hx hb dJ6_bitCount_0f7a4_47 rfl hl (by decide) rfl (fun ls hl => ?_)
  refine lv_iload_n hx hb dJ6_bitCount_0f7a4_48 rfl (lv_at hl 0 rfl) ?_
  refine lv_bipush (v := 63) hx hb dJ6_bitCount_0f7a4_49 (by decide) ?_
  refine lv_iand hx hb dJ6_bitCount_0f7a4_51 ?_
  exact S_iret hC hr hk (by rfl) hv dJ6_bitCount_0f7a4_52
def J_J7_fill_53178_5 (k : Nat) (N : Nat) (x2 : Int32) (post : St → Prop) (K5 : (Int32 × Int32 × Int32 × St) → Prop) (v1 : Int32) (v2 : Int32) (v3 : Int32) (g : St) : Prop := ((v3 ≤ v2 → post g) ∧ (¬ v3 ≤ v2 → vp_in v2 N ∧ (K5 (v1, (v2 + 1), v3, (sA g k (upd (g.1 k) (Int32.toNatClampNeg v2) v1))))))
def V_J7_fill_53178 (k : Nat) (N : Nat) (x2 : Int32) (g : St) (post : St → Prop) : Prop := lpP (fun K5 (z : Int32 × Int32 × Int32 × St) => J_J7_fill_53178_5 k N x2 post K5 z.1 z.2.1 z.2.2.1 z.2.2.2) (x2, 0, (nI N), g)
abbrev rm_J7_fill_53178 : Room := { frames := 0, cells := 0, slots := 0, locals := 0 }
set_option maxHeartbeats 4000000 in
set_option maxRecDepth 100000 in
theorem c_J7_fill_53178 (l : Launch) (D : va_G) (cs az a : Nat → Nat) {n : Nat} {A : Nat → Option (Nat × Nat)} {O : (Nat → Int32) → Nat → va_E} {k N : Nat} (hf : k < n ∧ A k = some (0, N)) (x2 : Int32) (g : St) (post : St → Prop) (hv : V_J7_fill_53178 k N x2 g post) : uMv l yJ7_fill_53178 wsJ7_fill_53178 rm_J7_fill_53178 D cs az (uW n A O cs a) [.ref (a k), .int x2] g post := by
  refine u_ofV (cc := cJ7_fill_53178) (maxL := 4) (by decide) rfl (Nat.le_of_ble_eq_true rfl) ?_
  intro p e s m args below meth c F ls hC hr hk hl hE
  have hx := hC.1.1; have hb := hC.1.2.1; have hml := hC.1.2.2.1; have hts := hC.1.2.2.2.2
  have hown : s.vm.findClass RJ7 = some m.cls := hC.1.2.2.2.1
  have hl : lv_has ls 4 [(0, .ref (a k)), (1, .int x2)] := hl
  unfold V_J7_fill_53178 at hv
  have j_5 : ∀ (v1 : Int32) (v2 : Int32) (v3 : Int32) (g : St), lpP (fun K5 (z : Int32 × Int32 × Int32 × St) => J_J7_fill_53178_5 k N x2 post K5 z.1 z.2.1 z.2.2.1 z.2.2.2) (v1, v2, v3, g) → ∀ (H : Heap) (locs : List Loc) (ls : Array Slot), uE D n A O cs a F s g H locs → lv_has ls 4 [(0, .ref (a k)), (1, .int v1), (2, .int v2), (3, .int v3)] → W p l e rm_J7_fill_53178 s m args below meth c H locs 0 0 (MQ below (va_Qv post (uB D (uW n A O cs a)) F) args s 0 0 F) (F0 m 5 ls []) := by
    intro  v1 v2 v3 g  hv
    obtain ⟨nn, hv⟩ := hv
    induction nn generalizing v1 v2 v3 g with
    | zero => exact False.elim hv
    | succ nn hK5 =>
      intro H locs ls hE hl
      have hv : J_J7_fill_53178_5 k N x2 post (itP _ nn) v1 v2 v3 g := hv
      unfold J_J7_fill_53178_5 at hv
      refine lv_iload_n hx hb dJ7_fill_53178_5 rfl (lv_at hl 2 rfl) ?_
      refine lv_iload_n hx hb dJ7_fill_53178_6 rfl (lv_at hl 3 rfl) ?_
      refine lv_icmp_ge (tgt := 20) hx hb dJ7_fill_53178_7 (by decide) (fun c => ?_) (fun c => ?_)
      · have hv := hv.1 c
        exact G_vret hC hr hk hE hv dJ7_fill_53178_20
      · have hv := hv.2 c
        refine lv_aload_n hx hb dJ7_fill_53178_10 rfl (lv_at hl 0 rfl) ?_
        refine lv_iload_n hx hb dJ7_fill_53178_11 rfl (lv_at hl 2 rfl) ?_
        refine lv_iload_n hx hb dJ7_fill_53178_12 rfl (lv_at hl 1 rfl) ?_
        refine G_iast hC hE hf hv.1 dJ7_fill_53178_13 (fun H locs hE => ?_)
        have hv := hv.2
        refine lv_iinc (v := (v2 + 1)) (lv' := [(2, .int (v2 + 1)), (0, .ref (a k)), (1, .int v1), (3, .int v3)]) hx hb dJ7_fill_53178_14 hl (k := 2) rfl rfl (by decide) rfl (fun ls hl => ?_)
        refine lv_goto (tgt := 5) hx hb dJ7_fill_53178_17 (by decide) ?_
        exact hK5 _ _ _ _  hv _ _ _ hE (lv_sub hl [1, 2, 0, 3] rfl)
  refine lv_iconst (v := 0) hx hb dJ7_fill_53178_0 (by decide) ?_
  refine lv_istore_n (lv' := [(2, .int 0), (0, .ref (a k)), (1, .int x2)]) hx hb dJ7_fill_53178_1 rfl hl (by decide) rfl (fun ls hl => ?_)
  refine lv_aload_n hx hb dJ7_fill_53178_2 rfl (lv_at hl 1 rfl) ?_
  refine G_alen hC hE hf dJ7_fill_53178_3 ?_
  refine lv_istore_n (lv' := [(3, .int (nI N)), (2, .int 0), (0, .ref (a k)), (1, .int x2)]) hx hb dJ7_fill_53178_4 rfl hl (by decide) rfl (fun ls hl => ?_)
  exact j_5  _ _ _ _  hv _ _ _ hE (lv_sub hl [2, 3, 1, 0] rfl)
def V_J0_isLatin1_aae02 (i : Nat) (post : Int32 → Prop) : Prop := (((1 : Int32) = 0 → post 0) ∧ (¬ (1 : Int32) = 0 → ((¬ (0 : Int32) = 0 → post 0) ∧ ((0 : Int32) = 0 → post 1))))
abbrev rm_J0_isLatin1_aae02 : Room := { frames := 0, cells := 0, slots := 0, locals := 0 }
set_option maxHeartbeats 4000000 in
set_option maxRecDepth 100000 in
theorem c_J0_isLatin1_aae02 (l : Launch) (az : Nat → Nat) {i : Nat} (hi : i < 3)  (post : Int32 → Prop) (hv : V_J0_isLatin1_aae02 i post) : uMk l yJ0_isLatin1_aae02 wsJ0_isLatin1_aae02 rm_J0_isLatin1_aae02 az [.ref (az (5 + i))] post := by
  refine u_ofK (cc := cJ0_isLatin1_aae02) (maxL := 1) (by decide) rfl (Nat.le_of_ble_eq_true rfl) ?_
  intro p e s m args below meth c ls hC hZ hr hk hl
  have hx := hC.1; have hb := hC.2.1; have hml := hC.2.2.1; have hts := hC.2.2.2.2
  have hown : s.vm.findClass RJ0 = some m.cls := hC.2.2.2.1
  have hl : lv_has ls 1 [(0, .ref (az (5 + i)))] := hl
  unfold V_J0_isLatin1_aae02 at hv
  refine va_gets (v := .int 1) hx hb hZ.cs va_S.rf hown (hts (.fieldLink RJ0 38 "java/lang/String" "COMPACT_STRINGS" "Z") (List.mem_of_getElem? (i := 1) rfl)) (fun _ h => h) dJ0_isLatin1_aae02_0 ?_
  refine lv_if_eq (tgt := 17) hx hb dJ0_isLatin1_aae02_3 (by decide) (fun c => ?_) (fun c => ?_)
  · have hv := hv.1 c
    refine lv_iconst (v := 0) hx hb dJ0_isLatin1_aae02_17 (by decide) ?_
    exact S_iret hC hr hk (by rfl) hv dJ0_isLatin1_aae02_18
  · have hv := hv.2 c
    refine lv_aload_n hx hb dJ0_isLatin1_aae02_6 rfl (lv_at hl 0 rfl) ?_
    refine vk_getf (v := .int 0) hx hb (hZ.st hi).2.1 va_S.rf hown (hts (.fieldLink RJ0 15 "java/lang/String" "coder" "B") (List.mem_of_getElem? (i := 2) rfl)) (fun _ h => h) dJ0_isLatin1_aae02_7 ?_
    refine lv_if_ne (tgt := 17) hx hb dJ0_isLatin1_aae02_10 (by decide) (fun c => ?_) (fun c => ?_)
    · have hv := hv.1 c
      refine lv_iconst (v := 0) hx hb dJ0_isLatin1_aae02_17 (by decide) ?_
      exact S_iret hC hr hk (by rfl) hv dJ0_isLatin1_aae02_18
    · have hv := hv.2 c
      refine lv_iconst (v := 1) hx hb dJ0_isLatin1_aae02_13 (by decide) ?_
      refine lv_goto (tgt := 18) hx hb dJ0_isLatin1_aae02_14 (by decide) ?_
      exact S_iret hC hr hk (by rfl) hv dJ0_isLatin1_aae02_18
def V_J0_coder_7d493 (i : Nat) (post : Int32 → Prop) : Prop := (((1 : Int32) = 0 → post 1) ∧ (¬ (1 : Int32) = 0 → post 0))
abbrev rm_J0_coder_7d493 : Room := { frames := 0, cells := 0, slots := 0, locals := 0 }
set_option maxHeartbeats 4000000 in
set_option maxRecDepth 100000 in
theorem c_J0_coder_7d493 (l : Launch) (az : Nat → Nat) {i : Nat} (hi : i < 3)  (post : Int32 → Prop) (hv : V_J0_coder_7d493 i post) : uMk l yJ0_coder_7d493 wsJ0_coder_7d493 rm_J0_coder_7d493 az [.ref (az (5 + i))] post := by
  refine u_ofK (cc := cJ0_coder_7d493) (maxL := 1) (by decide) rfl (Nat.le_of_ble_eq_true rfl) ?_
  intro p e s m args below meth c ls hC hZ hr hk hl
  have hx := hC.1; have hb := hC.2.1; have hml := hC.2.2.1; have hts := hC.2.2.2.2
  have hown : s.vm.findClass RJ0 = some m.cls := hC.2.2.2.1
  have hl : lv_has ls 1 [(0, .ref (az (5 + i)))] := hl
  unfold V_J0_coder_7d493 at hv
  refine va_gets (v := .int 1) hx hb hZ.cs va_S.rf hown (hts (.fieldLink RJ0 38 "java/lang/String" "COMPACT_STRINGS" "Z") (List.mem_of_getElem? (i := 1) rfl)) (fun _ h => h) dJ0_coder_7d493_0 ?_
  refine lv_if_eq (tgt := 13) hx hb dJ0_coder_7d493_3 (by decide) (fun c => ?_) (fun c => ?_)
  · have hv := hv.1 c
    refine lv_iconst (v := 1) hx hb dJ0_coder_7d493_13 (by decide) ?_
    exact S_iret hC hr hk (by rfl) hv dJ0_coder_7d493_14
  · have hv := hv.2 c
    refine lv_aload_n hx hb dJ0_coder_7d493_6 rfl (lv_at hl 0 rfl) ?_
    refine vk_getf (v := .int 0) hx hb (hZ.st hi).2.1 va_S.rf hown (hts (.fieldLink RJ0 15 "java/lang/String" "coder" "B") (List.mem_of_getElem? (i := 2) rfl)) (fun _ h => h) dJ0_coder_7d493_7 ?_
    refine lv_goto (tgt := 14) hx hb dJ0_coder_7d493_10 (by decide) ?_
    exact S_iret hC hr hk (by rfl) hv dJ0_coder_7d493_14
def V_J0_length_8abf5 (i : Nat) (post : Int32 → Prop) : Prop := V_J0_coder_7d493 i (fun r1 => post ((nI (kLen.getD i 0)) >>> (r1 &&& 31)))
abbrev rm_J0_length_8abf5 : Room := { frames := 1, cells := 0, slots := 0, locals := 20 }
set_option maxHeartbeats 4000000 in
set_option maxRecDepth 100000 in
theorem c_J0_length_8abf5 (l : Launch) (az : Nat → Nat) {i : Nat} (hi : i < 3)  (post : Int32 → Prop) (hv : V_J0_length_8abf5 i post) : uMk l yJ0_length_8abf5 wsJ0_length_8abf5 rm_J0_length_8abf5 az [.ref (az (5 + i))] post := by
  refine u_ofK (cc := cJ0_length_8abf5) (maxL := 1) (by decide) rfl (Nat.le_of_ble_eq_true rfl) ?_
  intro p e s m args below meth c ls hC hZ hr hk hl
  have hx := hC.1; have hb := hC.2.1; have hml := hC.2.2.1; have hts := hC.2.2.2.2
  have hown : s.vm.findClass RJ0 = some m.cls := hC.2.2.2.1
  have hl : lv_has ls 1 [(0, .ref (az (5 + i)))] := hl
  unfold V_J0_length_8abf5 at hv
  refine lv_aload_n hx hb dJ0_length_8abf5_0 rfl (lv_at hl 0 rfl) ?_
  refine vk_getf (v := .ref (az (8 + i))) hx hb (hZ.st hi).2.2.1 va_S.rf hown (hts (.fieldLink RJ0 9 "java/lang/String" "value" "[B") (List.mem_of_getElem? (i := 1) rfl)) (fun _ h => h) dJ0_length_8abf5_1 ?_
  refine va_tlen (v := nI (kLen.getD i 0)) hx hb (hZ.st hi).2.2.2 va_S.rf rfl dJ0_length_8abf5_4 ?_
  refine lv_aload_n hx hb dJ0_length_8abf5_5 rfl (lv_at hl 0 rfl) ?_
  refine G_callVk (i := i) hi hC (fun _ h => h) hZ va_S.rf (c_J0_coder_7d493 l az (i := i) hi  _ hv) (cwV 0 hts gJ0_length_8abf5_J0_coder_7d493 rfl rfl rfl (by decide +kernel) ⟨Nat.le_of_ble_eq_true rfl, Nat.le_of_ble_eq_true rfl⟩) rfl hl rfl (Nat.le_of_ble_eq_true rfl) dJ0_length_8abf5_6 (Nat.zero_le _) (Nat.zero_le _) (fun r1 hv => ?_)
  refine lv_ishr hx hb dJ0_length_8abf5_9 ?_
  exact S_iret hC hr hk (by rfl) hv dJ0_length_8abf5_10
def J_J3_checkIndex_8e157_9 (x1 : Int32) (x2 : Int32) (post : Int32 → Prop)  (v0 : Int32) (v1 : Int32) : Prop := False
def V_J3_checkIndex_8e157 (x1 : Int32) (x2 : Int32) (post : Int32 → Prop) : Prop := ((x1 < 0 → J_J3_checkIndex_8e157_9 x1 x2 post x1 x2) ∧ (¬ x1 < 0 → ((x1 < x2 → post x1) ∧ (¬ x1 < x2 → J_J3_checkIndex_8e157_9 x1 x2 post x1 x2))))
abbrev rm_J3_checkIndex_8e157 : Room := { frames := 0, cells := 0, slots := 0, locals := 0 }
set_option maxHeartbeats 4000000 in
set_option maxRecDepth 100000 in
theorem c_J3_checkIndex_8e157_n (l : Launch) (az : Nat → Nat) (x1 : Int32) (x2 : Int32) (post : Int32 → Prop) (hv : V_J3_checkIndex_8e157 x1 x2 post) : uMk l yJ3_checkIndex_8e157 wsJ3_checkIndex_8e157 rm_J3_checkIndex_8e157 az [.int x1, .int x2, .null] post := by
  refine u_ofK (cc := cJ3_checkIndex_8e157) (maxL := 3) (by decide) rfl (Nat.le_of_ble_eq_true rfl) ?_
  intro p e s m args below meth c ls hC hZ hr hk hl
  have hx := hC.1; have hb := hC.2.1; have hml := hC.2.2.1; have hts := hC.2.2.2.2
  have hown : s.vm.findClass RJ3 = some m.cls := hC.2.2.2.1
  have hl : lv_has ls 3 [(0, .int x1), (1, .int x2), (2, .null)] := hl
  unfold V_J3_checkIndex_8e157 at hv
  have j_9 : ∀ (v0 : Int32) (v1 : Int32), J_J3_checkIndex_8e157_9 x1 x2 post v0 v1 → ∀ (ls : Array Slot), lv_has ls 3 [(0, .int v0), (1, .int v1), (2, .null)] → W p l e rm_J3_checkIndex_8e157 s m args below meth c s.heap [] 0 0 (MQ below (vp_Si post) args s 0 0 (fun _ => False)) (F0 m 9 ls []) := by
    intro  v0 v1  hv
    intro ls hl
    unfold J_J3_checkIndex_8e157_9 at hv
    exact False.elim hv
  refine lv_iload_n hx hb dJ3_checkIndex_8e157_0 rfl (lv_at hl 0 rfl) ?_
  refine lv_if_lt (tgt := 9) hx hb dJ3_checkIndex_8e157_1 (by decide) (fun c => ?_) (fun c => ?_)
  · have hv := hv.1 c
    exact j_9  _ _  hv _ (lv_sub hl [0, 1, 2] rfl)
  · have hv := hv.2 c
    refine lv_iload_n hx hb dJ3_checkIndex_8e157_4 rfl (lv_at hl 0 rfl) ?_
    refine lv_iload_n hx hb dJ3_checkIndex_8e157_5 rfl (lv_at hl 1 rfl) ?_
    refine lv_icmp_lt (tgt := 16) hx hb dJ3_checkIndex_8e157_6 (by decide) (fun c => ?_) (fun c => ?_)
    · have hv := hv.1 c
      refine lv_iload_n hx hb dJ3_checkIndex_8e157_16 rfl (lv_at hl 0 rfl) ?_
      exact S_iret hC hr hk (by rfl) hv dJ3_checkIndex_8e157_17
    · have hv := hv.2 c
      exact j_9  _ _  hv _ (lv_sub hl [0, 1, 2] rfl)
set_option maxHeartbeats 4000000 in
set_option maxRecDepth 100000 in
theorem c_J3_checkIndex_8e157_r (l : Launch) (az : Nat → Nat) (x1 : Int32) (x2 : Int32) (tq : Nat) (post : Int32 → Prop) (hv : V_J3_checkIndex_8e157 x1 x2 post) : uMk l yJ3_checkIndex_8e157 wsJ3_checkIndex_8e157 rm_J3_checkIndex_8e157 az [.int x1, .int x2, .ref tq] post := by
  refine u_ofK (cc := cJ3_checkIndex_8e157) (maxL := 3) (by decide) rfl (Nat.le_of_ble_eq_true rfl) ?_
  intro p e s m args below meth c ls hC hZ hr hk hl
  have hx := hC.1; have hb := hC.2.1; have hml := hC.2.2.1; have hts := hC.2.2.2.2
  have hown : s.vm.findClass RJ3 = some m.cls := hC.2.2.2.1
  have hl : lv_has ls 3 [(0, .int x1), (1, .int x2), (2, .ref tq)] := hl
  unfold V_J3_checkIndex_8e157 at hv
  have j_9 : ∀ (v0 : Int32) (v1 : Int32), J_J3_checkIndex_8e157_9 x1 x2 post v0 v1 → ∀ (ls : Array Slot), lv_has ls 3 [(0, .int v0), (1, .int v1), (2, .ref tq)] → W p l e rm_J3_checkIndex_8e157 s m args below meth c s.heap [] 0 0 (MQ below (vp_Si post) args s 0 0 (fun _ => False)) (F0 m 9 ls []) := by
    intro  v0 v1  hv
    intro ls hl
    unfold J_J3_checkIndex_8e157_9 at hv
    exact False.elim hv
  refine lv_iload_n hx hb dJ3_checkIndex_8e157_0 rfl (lv_at hl 0 rfl) ?_
  refine lv_if_lt (tgt := 9) hx hb dJ3_checkIndex_8e157_1 (by decide) (fun c => ?_) (fun c => ?_)
  · have hv := hv.1 c
    exact j_9  _ _  hv _ (lv_sub hl [0, 1, 2] rfl)
  · have hv := hv.2 c
    refine lv_iload_n hx hb dJ3_checkIndex_8e157_4 rfl (lv_at hl 0 rfl) ?_
    refine lv_iload_n hx hb dJ3_checkIndex_8e157_5 rfl (lv_at hl 1 rfl) ?_
    refine lv_icmp_lt (tgt := 16) hx hb dJ3_checkIndex_8e157_6 (by decide) (fun c => ?_) (fun c => ?_)
    · have hv := hv.1 c
      refine lv_iload_n hx hb dJ3_checkIndex_8e157_16 rfl (lv_at hl 0 rfl) ?_
      exact S_iret hC hr hk (by rfl) hv dJ3_checkIndex_8e157_17
    · have hv := hv.2 c
      exact j_9  _ _  hv _ (lv_sub hl [0, 1, 2] rfl)
def V_J0_checkIndex_df160 (x1 : Int32) (x2 : Int32) (post : Prop) : Prop := V_J3_checkIndex_8e157 x1 x2 (fun r1 => post)
abbrev rm_J0_checkIndex_df160 : Room := { frames := 1, cells := 0, slots := 0, locals := 22 }
set_option maxHeartbeats 4000000 in
set_option maxRecDepth 100000 in
theorem c_J0_checkIndex_df160 (l : Launch) (az : Nat → Nat) (x1 : Int32) (x2 : Int32) (post : Prop) (hv : V_J0_checkIndex_df160 x1 x2 post) : uMkv l yJ0_checkIndex_df160 wsJ0_checkIndex_df160 rm_J0_checkIndex_df160 az [.int x1, .int x2] post := by
  refine u_ofKv (cc := cJ0_checkIndex_df160) (maxL := 2) (by decide) rfl (Nat.le_of_ble_eq_true rfl) ?_
  intro p e s m args below meth c ls hC hZ hr hk hl
  have hx := hC.1; have hb := hC.2.1; have hml := hC.2.2.1; have hts := hC.2.2.2.2
  have hown : s.vm.findClass RJ0 = some m.cls := hC.2.2.2.1
  have hl : lv_has ls 2 [(0, .int x1), (1, .int x2)] := hl
  unfold V_J0_checkIndex_df160 at hv
  refine lv_iload_n hx hb dJ0_checkIndex_df160_0 rfl (lv_at hl 0 rfl) ?_
  refine lv_iload_n hx hb dJ0_checkIndex_df160_1 rfl (lv_at hl 1 rfl) ?_
  rcases hZ.sio with hs | ⟨tq, hs⟩
  · refine va_gets (v := .null) hx hb hs va_S.rf hown (hts (.fieldLink RJ0 1053 "jdk/internal/util/Preconditions" "SIOOBE_FORMATTER" "Ljava/util/function/BiFunction;") (List.mem_of_getElem? (i := 1) rfl)) (fun _ h => h) dJ0_checkIndex_df160_2 ?_
    refine G_callSk hC (fun _ h => h) hZ va_S.rf (c_J3_checkIndex_8e157_n l az x1 x2 _ hv) (va_cwS 3 hts gJ0_checkIndex_df160_J3_checkIndex_8e157 rfl rfl rfl (by decide +kernel) ⟨Nat.le_of_ble_eq_true rfl, Nat.le_of_ble_eq_true rfl⟩) rfl hl rfl (Nat.le_of_ble_eq_true rfl) dJ0_checkIndex_df160_5 (Nat.zero_le _) (Nat.zero_le _) (fun r1 hv => ?_)
    refine lv_pop hx hb dJ0_checkIndex_df160_8 rfl ?_
    exact S_vret hC hr hk hv dJ0_checkIndex_df160_9
  · refine va_gets (v := .ref tq) hx hb hs va_S.rf hown (hts (.fieldLink RJ0 1053 "jdk/internal/util/Preconditions" "SIOOBE_FORMATTER" "Ljava/util/function/BiFunction;") (List.mem_of_getElem? (i := 1) rfl)) (fun _ h => h) dJ0_checkIndex_df160_2 ?_
    refine G_callSk hC (fun _ h => h) hZ va_S.rf (c_J3_checkIndex_8e157_r l az x1 x2 tq _ hv) (va_cwS 3 hts gJ0_checkIndex_df160_J3_checkIndex_8e157 rfl rfl rfl (by decide +kernel) ⟨Nat.le_of_ble_eq_true rfl, Nat.le_of_ble_eq_true rfl⟩) rfl hl rfl (Nat.le_of_ble_eq_true rfl) dJ0_checkIndex_df160_5 (Nat.zero_le _) (Nat.zero_le _) (fun r1 hv => ?_)
    refine lv_pop hx hb dJ0_checkIndex_df160_8 rfl ?_
    exact S_vret hC hr hk hv dJ0_checkIndex_df160_9
def V_J1_charAt_3b067 (i : Nat) (x2 : Int32) (post : Int32 → Prop) : Prop := V_J0_checkIndex_df160 x2 (nI (kLen.getD i 0)) (vp_in x2 (kLen.getD i 0) ∧ ((narrow .char (.int ((Int32.toUInt32 (((kByt.getD i []).getD (Int32.toNatClampNeg x2) 0) &&& 255) % 65536).toInt32)) = .int ((Int32.toUInt32 (((kByt.getD i []).getD (Int32.toNatClampNeg x2) 0) &&& 255) % 65536).toInt32)) ∧ post ((Int32.toUInt32 (((kByt.getD i []).getD (Int32.toNatClampNeg x2) 0) &&& 255) % 65536).toInt32)))
abbrev rm_J1_charAt_3b067 : Room := { frames := 2, cells := 0, slots := 0, locals := 43 }
set_option maxHeartbeats 4000000 in
set_option maxRecDepth 100000 in
theorem c_J1_charAt_3b067 (l : Launch) (az : Nat → Nat) {i : Nat} (hi : i < 3) (x2 : Int32) (post : Int32 → Prop) (hv : V_J1_charAt_3b067 i x2 post) : uMk l yJ1_charAt_3b067 wsJ1_charAt_3b067 rm_J1_charAt_3b067 az [.ref (az (8 + i)), .int x2] post := by
  refine u_ofK (cc := cJ1_charAt_3b067) (maxL := 2) (by decide) rfl (Nat.le_of_ble_eq_true rfl) ?_
  intro p e s m args below meth c ls hC hZ hr hk hl
  have hx := hC.1; have hb := hC.2.1; have hml := hC.2.2.1; have hts := hC.2.2.2.2
  have hown : s.vm.findClass RJ1 = some m.cls := hC.2.2.2.1
  have hl : lv_has ls 2 [(0, .ref (az (8 + i))), (1, .int x2)] := hl
  unfold V_J1_charAt_3b067 at hv
  refine lv_iload_n hx hb dJ1_charAt_3b067_0 rfl (lv_at hl 1 rfl) ?_
  refine lv_aload_n hx hb dJ1_charAt_3b067_1 rfl (lv_at hl 0 rfl) ?_
  refine va_tlen (v := nI (kLen.getD i 0)) hx hb (hZ.st hi).2.2.2 va_S.rf rfl dJ1_charAt_3b067_2 ?_
  refine G_callSkv hC (fun _ h => h) hZ va_S.rf (c_J0_checkIndex_df160 l az x2 (nI (kLen.getD i 0)) _ hv) (va_cwS 2 hts gJ1_charAt_3b067_J0_checkIndex_df160 rfl rfl rfl (by decide +kernel) ⟨Nat.le_of_ble_eq_true rfl, Nat.le_of_ble_eq_true rfl⟩) rfl hl rfl (Nat.le_of_ble_eq_true rfl) dJ1_charAt_3b067_3 (Nat.zero_le _) (Nat.zero_le _) (fun hv => ?_)
  refine lv_aload_n hx hb dJ1_charAt_3b067_6 rfl (lv_at hl 0 rfl) ?_
  refine lv_iload_n hx hb dJ1_charAt_3b067_7 rfl (lv_at hl 1 rfl) ?_
  refine va_tb (v := .int ((kByt.getD i []).getD (Int32.toNatClampNeg x2) 0)) hx hb (hZ.st hi).2.2.2 va_S.rf hv.1 rfl dJ1_charAt_3b067_8 ?_
  have hv := hv.2
  refine lv_sipush (v := 255) hx hb dJ1_charAt_3b067_9 (by decide) ?_
  refine lv_iand hx hb dJ1_charAt_3b067_12 ?_
  refine lv_i2c (v := (Int32.toUInt32 (((kByt.getD i []).getD (Int32.toNatClampNeg x2) 0) &&& 255) % 65536).toInt32) hx hb dJ1_charAt_3b067_13 rfl ?_
  exact S_iret hC hr hk hv.1 hv.2 dJ1_charAt_3b067_14
def V_J0_charAt_5068e (i : Nat) (x1 : Int32) (post : Int32 → Prop) : Prop := V_J0_isLatin1_aae02 i (fun r1 => ((r1 = 0 → False) ∧ (¬ r1 = 0 → V_J1_charAt_3b067 i x1 (fun r2 => (narrow .char (.int r2) = .int r2) ∧ post r2))))
abbrev rm_J0_charAt_5068e : Room := { frames := 3, cells := 0, slots := 0, locals := 64 }
set_option maxHeartbeats 4000000 in
set_option maxRecDepth 100000 in
theorem c_J0_charAt_5068e (l : Launch) (az : Nat → Nat) {i : Nat} (hi : i < 3) (x1 : Int32) (post : Int32 → Prop) (hv : V_J0_charAt_5068e i x1 post) : uMk l yJ0_charAt_5068e wsJ0_charAt_5068e rm_J0_charAt_5068e az [.ref (az (5 + i)), .int x1] post := by
  refine u_ofK (cc := cJ0_charAt_5068e) (maxL := 2) (by decide) rfl (Nat.le_of_ble_eq_true rfl) ?_
  intro p e s m args below meth c ls hC hZ hr hk hl
  have hx := hC.1; have hb := hC.2.1; have hml := hC.2.2.1; have hts := hC.2.2.2.2
  have hown : s.vm.findClass RJ0 = some m.cls := hC.2.2.2.1
  have hl : lv_has ls 2 [(0, .ref (az (5 + i))), (1, .int x1)] := hl
  unfold V_J0_charAt_5068e at hv
  refine lv_aload_n hx hb dJ0_charAt_5068e_0 rfl (lv_at hl 0 rfl) ?_
  refine G_callVk (i := i) hi hC (fun _ h => h) hZ va_S.rf (c_J0_isLatin1_aae02 l az (i := i) hi  _ hv) (cwV 0 hts gJ0_charAt_5068e_J0_isLatin1_aae02 rfl rfl rfl (by decide +kernel) ⟨Nat.le_of_ble_eq_true rfl, Nat.le_of_ble_eq_true rfl⟩) rfl hl rfl (Nat.le_of_ble_eq_true rfl) dJ0_charAt_5068e_1 (Nat.zero_le _) (Nat.zero_le _) (fun r1 hv => ?_)
  refine lv_if_eq (tgt := 16) hx hb dJ0_charAt_5068e_4 (by decide) (fun c => ?_) (fun c => ?_)
  · have hv := hv.1 c
    exact False.elim hv
  · have hv := hv.2 c
    refine lv_aload_n hx hb dJ0_charAt_5068e_7 rfl (lv_at hl 0 rfl) ?_
    refine vk_getf (v := .ref (az (8 + i))) hx hb (hZ.st hi).2.2.1 va_S.rf hown (hts (.fieldLink RJ0 9 "java/lang/String" "value" "[B") (List.mem_of_getElem? (i := 1) rfl)) (fun _ h => h) dJ0_charAt_5068e_8 ?_
    refine lv_iload_n hx hb dJ0_charAt_5068e_11 rfl (lv_at hl 1 rfl) ?_
    refine G_callSk hC (fun _ h => h) hZ va_S.rf (c_J1_charAt_3b067 l az (i := i) hi x1 _ hv) (va_cwS 2 hts gJ0_charAt_5068e_J1_charAt_3b067 rfl rfl rfl (by decide +kernel) ⟨Nat.le_of_ble_eq_true rfl, Nat.le_of_ble_eq_true rfl⟩) rfl hl rfl (Nat.le_of_ble_eq_true rfl) dJ0_charAt_5068e_12 (Nat.zero_le _) (Nat.zero_le _) (fun r2 hv => ?_)
    exact S_iret hC hr hk hv.1 hv.2 dJ0_charAt_5068e_15
def V_J1_canEncode_9a6ad (x1 : Int32) (post : Int32 → Prop) : Prop := ((x1 < 0 → post 0) ∧ (¬ x1 < 0 → ((255 < x1 → post 0) ∧ (¬ 255 < x1 → post 1))))
abbrev rm_J1_canEncode_9a6ad : Room := { frames := 0, cells := 0, slots := 0, locals := 0 }
set_option maxHeartbeats 4000000 in
set_option maxRecDepth 100000 in
theorem c_J1_canEncode_9a6ad (l : Launch) (x1 : Int32) (post : Int32 → Prop) (hv : V_J1_canEncode_9a6ad x1 post) : uMs l yJ1_canEncode_9a6ad wsJ1_canEncode_9a6ad rm_J1_canEncode_9a6ad [.int x1] post := by
  refine u_ofS (cc := cJ1_canEncode_9a6ad) (maxL := 1) (by decide) rfl (Nat.le_of_ble_eq_true rfl) ?_
  intro p e s m args below meth c ls hC hN hr hk hl
  have hx := hC.1; have hb := hC.2.1; have hml := hC.2.2.1; have hts := hC.2.2.2.2
  have hown : s.vm.findClass RJ1 = some m.cls := hC.2.2.2.1
  have hl : lv_has ls 1 [(0, .int x1)] := hl
  unfold V_J1_canEncode_9a6ad at hv
  refine lv_iload_n hx hb dJ1_canEncode_9a6ad_0 rfl (lv_at hl 0 rfl) ?_
  refine lv_if_lt (tgt := 15) hx hb dJ1_canEncode_9a6ad_1 (by decide) (fun c => ?_) (fun c => ?_)
  · have hv := hv.1 c
    refine lv_iconst (v := 0) hx hb dJ1_canEncode_9a6ad_15 (by decide) ?_
    exact S_iret hC hr hk (by rfl) hv dJ1_canEncode_9a6ad_16
  · have hv := hv.2 c
    refine lv_iload_n hx hb dJ1_canEncode_9a6ad_4 rfl (lv_at hl 0 rfl) ?_
    refine lv_sipush (v := 255) hx hb dJ1_canEncode_9a6ad_5 (by decide) ?_
    refine lv_icmp_gt (tgt := 15) hx hb dJ1_canEncode_9a6ad_8 (by decide) (fun c => ?_) (fun c => ?_)
    · have hv := hv.1 c
      refine lv_iconst (v := 0) hx hb dJ1_canEncode_9a6ad_15 (by decide) ?_
      exact S_iret hC hr hk (by rfl) hv dJ1_canEncode_9a6ad_16
    · have hv := hv.2 c
      refine lv_iconst (v := 1) hx hb dJ1_canEncode_9a6ad_11 (by decide) ?_
      refine lv_goto (tgt := 16) hx hb dJ1_canEncode_9a6ad_12 (by decide) ?_
      exact S_iret hC hr hk (by rfl) hv dJ1_canEncode_9a6ad_16
def J_J1_indexOfChar_4cfef_7 (i : Nat) (x2 : Int32) (x3 : Int32) (x4 : Int32) (post : Int32 → Prop) (K7 : (Int32 × Int32 × Int32) → Prop) (v3 : Int32) (v4 : Int32) (v5 : Int32) : Prop := ((v3 ≤ v5 → post (-1)) ∧ (¬ v3 ≤ v5 → vp_in v5 (kLen.getD i 0) ∧ (((¬ ((kByt.getD i []).getD (Int32.toNatClampNeg v5) 0) = v4 → K7 (v3, v4, (v5 + 1))) ∧ (((kByt.getD i []).getD (Int32.toNatClampNeg v5) 0) = v4 → post v5)))))
def V_J1_indexOfChar_4cfef (i : Nat) (x2 : Int32) (x3 : Int32) (x4 : Int32) (post : Int32 → Prop) : Prop := lpP (fun K7 (z : Int32 × Int32 × Int32) => J_J1_indexOfChar_4cfef_7 i x2 x3 x4 post K7 z.1 z.2.1 z.2.2) (x4, ((Int32.toInt8 x2).toInt32), x3)
abbrev rm_J1_indexOfChar_4cfef : Room := { frames := 0, cells := 0, slots := 0, locals := 0 }
set_option maxHeartbeats 4000000 in
set_option maxRecDepth 100000 in
theorem c_J1_indexOfChar_4cfef (l : Launch) (az : Nat → Nat) {i : Nat} (hi : i < 3) (x2 : Int32) (x3 : Int32) (x4 : Int32) (post : Int32 → Prop) (hv : V_J1_indexOfChar_4cfef i x2 x3 x4 post) : uMk l yJ1_indexOfChar_4cfef wsJ1_indexOfChar_4cfef rm_J1_indexOfChar_4cfef az [.ref (az (8 + i)), .int x2, .int x3, .int x4] post := by
  refine u_ofK (cc := cJ1_indexOfChar_4cfef) (maxL := 6) (by decide) rfl (Nat.le_of_ble_eq_true rfl) ?_
  intro p e s m args below meth c ls hC hZ hr hk hl
  have hx := hC.1; have hb := hC.2.1; have hml := hC.2.2.1; have hts := hC.2.2.2.2
  have hown : s.vm.findClass RJ1 = some m.cls := hC.2.2.2.1
  have hl : lv_has ls 6 [(0, .ref (az (8 + i))), (1, .int x2), (2, .int x3), (3, .int x4)] := hl
  unfold V_J1_indexOfChar_4cfef at hv
  have j_7 : ∀ (v3 : Int32) (v4 : Int32) (v5 : Int32), lpP (fun K7 (z : Int32 × Int32 × Int32) => J_J1_indexOfChar_4cfef_7 i x2 x3 x4 post K7 z.1 z.2.1 z.2.2) (v3, v4, v5) → ∀ (ls : Array Slot), lv_has ls 6 [(0, .ref (az (8 + i))), (3, .int v3), (4, .int v4), (5, .int v5)] → W p l e rm_J1_indexOfChar_4cfef s m args below meth c s.heap [] 0 0 (MQ below (vp_Si post) args s 0 0 (fun _ => False)) (F0 m 7 ls []) := by
    intro  v3 v4 v5  hv
    obtain ⟨nn, hv⟩ := hv
    induction nn generalizing v3 v4 v5 with
    | zero => exact False.elim hv
    | succ nn hK7 =>
      intro ls hl
      have hv : J_J1_indexOfChar_4cfef_7 i x2 x3 x4 post (itP _ nn) v3 v4 v5 := hv
      unfold J_J1_indexOfChar_4cfef_7 at hv
      refine lv_iload hx hb dJ1_indexOfChar_4cfef_7 (lv_at hl 3 rfl) ?_
      refine lv_iload_n hx hb dJ1_indexOfChar_4cfef_9 rfl (lv_at hl 1 rfl) ?_
      refine lv_icmp_ge (tgt := 31) hx hb dJ1_indexOfChar_4cfef_10 (by decide) (fun c => ?_) (fun c => ?_)
      · have hv := hv.1 c
        refine lv_iconst (v := (-1)) hx hb dJ1_indexOfChar_4cfef_31 (by decide) ?_
        exact S_iret hC hr hk (by rfl) hv dJ1_indexOfChar_4cfef_32
      · have hv := hv.2 c
        refine lv_aload_n hx hb dJ1_indexOfChar_4cfef_13 rfl (lv_at hl 0 rfl) ?_
        refine lv_iload hx hb dJ1_indexOfChar_4cfef_14 (lv_at hl 3 rfl) ?_
        refine va_tb (v := .int ((kByt.getD i []).getD (Int32.toNatClampNeg v5) 0)) hx hb (hZ.st hi).2.2.2 va_S.rf hv.1 rfl dJ1_indexOfChar_4cfef_16 ?_
        have hv := hv.2
        refine lv_iload hx hb dJ1_indexOfChar_4cfef_17 (lv_at hl 2 rfl) ?_
        refine lv_icmp_ne (tgt := 25) hx hb dJ1_indexOfChar_4cfef_19 (by decide) (fun c => ?_) (fun c => ?_)
        · have hv := hv.1 c
          refine lv_iinc (v := (v5 + 1)) (lv' := [(5, .int (v5 + 1)), (0, .ref (az (8 + i))), (3, .int v3), (4, .int v4)]) hx hb dJ1_indexOfChar_4cfef_25 hl (k := 3) rfl rfl (by decide) rfl (fun ls hl => ?_)
          refine lv_goto (tgt := 7) hx hb dJ1_indexOfChar_4cfef_28 (by decide) ?_
          exact hK7 _ _ _  hv _ (lv_sub hl [1, 2, 3, 0] rfl)
        · have hv := hv.2 c
          refine lv_iload hx hb dJ1_indexOfChar_4cfef_22 (lv_at hl 3 rfl) ?_
          exact S_iret hC hr hk (by rfl) hv dJ1_indexOfChar_4cfef_24
  refine lv_iload_n hx hb dJ1_indexOfChar_4cfef_0 rfl (lv_at hl 1 rfl) ?_
  refine lv_i2b (v := (Int32.toInt8 x2).toInt32) hx hb dJ1_indexOfChar_4cfef_1 rfl ?_
  refine lv_istore (lv' := [(4, .int ((Int32.toInt8 x2).toInt32)), (0, .ref (az (8 + i))), (1, .int x2), (2, .int x3), (3, .int x4)]) hx hb dJ1_indexOfChar_4cfef_2 hl (by decide) rfl (fun ls hl => ?_)
  refine lv_iload_n hx hb dJ1_indexOfChar_4cfef_4 rfl (lv_at hl 3 rfl) ?_
  refine lv_istore (lv' := [(5, .int x3), (4, .int ((Int32.toInt8 x2).toInt32)), (0, .ref (az (8 + i))), (1, .int x2), (2, .int x3), (3, .int x4)]) hx hb dJ1_indexOfChar_4cfef_5 hl (by decide) rfl (fun ls hl => ?_)
  exact j_7  _ _ _  hv _ (lv_sub hl [2, 5, 1, 0] rfl)
def V_J1_indexOf_4cfef (i : Nat) (x2 : Int32) (x3 : Int32) (x4 : Int32) (post : Int32 → Prop) : Prop := V_J1_canEncode_9a6ad x2 (fun r1 => ((¬ r1 = 0 → (((if x3 < 0 then 0 else x3) < (if (nI (kLen.getD i 0)) < x4 then (nI (kLen.getD i 0)) else x4) → V_J1_indexOfChar_4cfef i x2 (if x3 < 0 then 0 else x3) (if (nI (kLen.getD i 0)) < x4 then (nI (kLen.getD i 0)) else x4) (fun r2 => post r2)) ∧ (¬ (if x3 < 0 then 0 else x3) < (if (nI (kLen.getD i 0)) < x4 then (nI (kLen.getD i 0)) else x4) → post (-1)))) ∧ (r1 = 0 → post (-1))))
abbrev rm_J1_indexOf_4cfef : Room := { frames := 1, cells := 0, slots := 0, locals := 25 }
set_option maxHeartbeats 4000000 in
set_option maxRecDepth 100000 in
theorem c_J1_indexOf_4cfef (l : Launch) (az : Nat → Nat) {i : Nat} (hi : i < 3) (x2 : Int32) (x3 : Int32) (x4 : Int32) (post : Int32 → Prop) (hv : V_J1_indexOf_4cfef i x2 x3 x4 post) : uMk l yJ1_indexOf_4cfef wsJ1_indexOf_4cfef rm_J1_indexOf_4cfef az [.ref (az (8 + i)), .int x2, .int x3, .int x4] post := by
  refine u_ofK (cc := cJ1_indexOf_4cfef) (maxL := 4) (by decide) rfl (Nat.le_of_ble_eq_true rfl) ?_
  intro p e s m args below meth c ls hC hZ hr hk hl
  have hx := hC.1; have hb := hC.2.1; have hml := hC.2.2.1; have hts := hC.2.2.2.2
  have hown : s.vm.findClass RJ1 = some m.cls := hC.2.2.2.1
  have hl : lv_has ls 4 [(0, .ref (az (8 + i))), (1, .int x2), (2, .int x3), (3, .int x4)] := hl
  unfold V_J1_indexOf_4cfef at hv
  refine lv_iload_n hx hb dJ1_indexOf_4cfef_0 rfl (lv_at hl 1 rfl) ?_
  refine G_callSs hC hZ.2.1 (c_J1_canEncode_9a6ad l x2 _ hv) (va_cwS 1 hts gJ1_indexOf_4cfef_J1_canEncode_9a6ad rfl rfl rfl (by decide +kernel) ⟨Nat.le_of_ble_eq_true rfl, Nat.le_of_ble_eq_true rfl⟩) rfl hl rfl (Nat.le_of_ble_eq_true rfl) dJ1_indexOf_4cfef_1 (Nat.zero_le _) (Nat.zero_le _) (fun r1 hv => ?_)
  refine lv_if_ne (tgt := 9) hx hb dJ1_indexOf_4cfef_4 (by decide) (fun c => ?_) (fun c => ?_)
  · have hv := hv.1 c
    refine lv_iload_n hx hb dJ1_indexOf_4cfef_9 rfl (lv_at hl 2 rfl) ?_
    refine lv_iconst (v := 0) hx hb dJ1_indexOf_4cfef_10 (by decide) ?_
    refine va_mmax hx hb (hml.trans hl.1.symm) hown (hts _ (List.mem_of_getElem? (i := 1) rfl)) (hts _ (List.mem_of_getElem? (i := 2) rfl)) (hts _ (List.mem_of_getElem? (i := 3) rfl)) (hts _ (List.mem_of_getElem? (i := 4) rfl)) (Nat.le_of_ble_eq_true rfl) (Nat.le_of_ble_eq_true rfl) (Nat.zero_le _) (Nat.zero_le _) dJ1_indexOf_4cfef_11 ?_
    refine lv_istore_n (lv' := [(2, .int (if x3 < 0 then 0 else x3)), (0, .ref (az (8 + i))), (1, .int x2), (3, .int x4)]) hx hb dJ1_indexOf_4cfef_14 rfl hl (by decide) rfl (fun ls hl => ?_)
    refine lv_iload_n hx hb dJ1_indexOf_4cfef_15 rfl (lv_at hl 3 rfl) ?_
    refine lv_aload_n hx hb dJ1_indexOf_4cfef_16 rfl (lv_at hl 1 rfl) ?_
    refine va_tlen (v := nI (kLen.getD i 0)) hx hb (hZ.st hi).2.2.2 va_S.rf rfl dJ1_indexOf_4cfef_17 ?_
    refine va_mmin hx hb (hml.trans hl.1.symm) hown (hts _ (List.mem_of_getElem? (i := 5) rfl)) (hts _ (List.mem_of_getElem? (i := 6) rfl)) (hts _ (List.mem_of_getElem? (i := 3) rfl)) (hts _ (List.mem_of_getElem? (i := 7) rfl)) (Nat.le_of_ble_eq_true rfl) (Nat.le_of_ble_eq_true rfl) (Nat.zero_le _) (Nat.zero_le _) dJ1_indexOf_4cfef_18 ?_
    refine lv_istore_n (lv' := [(3, .int (if (nI (kLen.getD i 0)) < x4 then (nI (kLen.getD i 0)) else x4)), (2, .int (if x3 < 0 then 0 else x3)), (0, .ref (az (8 + i))), (1, .int x2)]) hx hb dJ1_indexOf_4cfef_21 rfl hl (by decide) rfl (fun ls hl => ?_)
    refine lv_iload_n hx hb dJ1_indexOf_4cfef_22 rfl (lv_at hl 1 rfl) ?_
    refine lv_iload_n hx hb dJ1_indexOf_4cfef_23 rfl (lv_at hl 0 rfl) ?_
    refine lv_icmp_lt (tgt := 29) hx hb dJ1_indexOf_4cfef_24 (by decide) (fun c => ?_) (fun c => ?_)
    · have hv := hv.1 c
      refine lv_aload_n hx hb dJ1_indexOf_4cfef_29 rfl (lv_at hl 2 rfl) ?_
      refine lv_iload_n hx hb dJ1_indexOf_4cfef_30 rfl (lv_at hl 3 rfl) ?_
      refine lv_iload_n hx hb dJ1_indexOf_4cfef_31 rfl (lv_at hl 1 rfl) ?_
      refine lv_iload_n hx hb dJ1_indexOf_4cfef_32 rfl (lv_at hl 0 rfl) ?_
      refine G_callSk hC (fun _ h => h) hZ va_S.rf (c_J1_indexOfChar_4cfef l az (i := i) hi x2 (if x3 < 0 then 0 else x3) (if (nI (kLen.getD i 0)) < x4 then (nI (kLen.getD i 0)) else x4) _ hv) (va_cwS 4 hts gJ1_indexOf_4cfef_J1_indexOfChar_4cfef rfl rfl rfl (by decide +kernel) ⟨Nat.le_of_ble_eq_true rfl, Nat.le_of_ble_eq_true rfl⟩) rfl hl rfl (Nat.le_of_ble_eq_true rfl) dJ1_indexOf_4cfef_33 (Nat.zero_le _) (Nat.zero_le _) (fun r2 hv => ?_)
      exact S_iret hC hr hk (by rfl) hv dJ1_indexOf_4cfef_36
    · have hv := hv.2 c
      refine lv_iconst (v := (-1)) hx hb dJ1_indexOf_4cfef_27 (by decide) ?_
      exact S_iret hC hr hk (by rfl) hv dJ1_indexOf_4cfef_28
  · have hv := hv.2 c
    refine lv_iconst (v := (-1)) hx hb dJ1_indexOf_4cfef_7 (by decide) ?_
    exact S_iret hC hr hk (by rfl) hv dJ1_indexOf_4cfef_8
def V_J0_indexOf_7cf53 (i : Nat) (x1 : Int32) (x2 : Int32) (post : Int32 → Prop) : Prop := V_J0_isLatin1_aae02 i (fun r1 => ((r1 = 0 → V_J0_length_8abf5 i (fun r2 => False)) ∧ (¬ r1 = 0 → V_J0_length_8abf5 i (fun r3 => V_J1_indexOf_4cfef i x1 x2 r3 (fun r4 => post r4)))))
abbrev rm_J0_indexOf_7cf53 : Room := { frames := 2, cells := 0, slots := 0, locals := 48 }
set_option maxHeartbeats 4000000 in
set_option maxRecDepth 100000 in
theorem c_J0_indexOf_7cf53 (l : Launch) (az : Nat → Nat) {i : Nat} (hi : i < 3) (x1 : Int32) (x2 : Int32) (post : Int32 → Prop) (hv : V_J0_indexOf_7cf53 i x1 x2 post) : uMk l yJ0_indexOf_7cf53 wsJ0_indexOf_7cf53 rm_J0_indexOf_7cf53 az [.ref (az (5 + i)), .int x1, .int x2] post := by
  refine u_ofK (cc := cJ0_indexOf_7cf53) (maxL := 3) (by decide) rfl (Nat.le_of_ble_eq_true rfl) ?_
  intro p e s m args below meth c ls hC hZ hr hk hl
  have hx := hC.1; have hb := hC.2.1; have hml := hC.2.2.1; have hts := hC.2.2.2.2
  have hown : s.vm.findClass RJ0 = some m.cls := hC.2.2.2.1
  have hl : lv_has ls 3 [(0, .ref (az (5 + i))), (1, .int x1), (2, .int x2)] := hl
  unfold V_J0_indexOf_7cf53 at hv
  refine lv_aload_n hx hb dJ0_indexOf_7cf53_0 rfl (lv_at hl 0 rfl) ?_
  refine G_callVk (i := i) hi hC (fun _ h => h) hZ va_S.rf (c_J0_isLatin1_aae02 l az (i := i) hi  _ hv) (cwV 0 hts gJ0_indexOf_7cf53_J0_isLatin1_aae02 rfl rfl rfl (by decide +kernel) ⟨Nat.le_of_ble_eq_true rfl, Nat.le_of_ble_eq_true rfl⟩) rfl hl rfl (Nat.le_of_ble_eq_true rfl) dJ0_indexOf_7cf53_1 (Nat.zero_le _) (Nat.zero_le _) (fun r1 hv => ?_)
  refine lv_if_eq (tgt := 23) hx hb dJ0_indexOf_7cf53_4 (by decide) (fun c => ?_) (fun c => ?_)
  · have hv := hv.1 c
    refine lv_aload_n hx hb dJ0_indexOf_7cf53_23 rfl (lv_at hl 0 rfl) ?_
    refine vk_getf (v := .ref (az (8 + i))) hx hb (hZ.st hi).2.2.1 va_S.rf hown (hts (.fieldLink RJ0 9 "java/lang/String" "value" "[B") (List.mem_of_getElem? (i := 1) rfl)) (fun _ h => h) dJ0_indexOf_7cf53_24 ?_
    refine lv_iload_n hx hb dJ0_indexOf_7cf53_27 rfl (lv_at hl 1 rfl) ?_
    refine lv_iload_n hx hb dJ0_indexOf_7cf53_28 rfl (lv_at hl 2 rfl) ?_
    refine lv_aload_n hx hb dJ0_indexOf_7cf53_29 rfl (lv_at hl 0 rfl) ?_
    refine G_callVk (i := i) hi hC (fun _ h => h) hZ va_S.rf (c_J0_length_8abf5 l az (i := i) hi  _ hv) (cwV 0 hts gJ0_indexOf_7cf53_J0_length_8abf5 rfl rfl rfl (by decide +kernel) ⟨Nat.le_of_ble_eq_true rfl, Nat.le_of_ble_eq_true rfl⟩) rfl hl rfl (Nat.le_of_ble_eq_true rfl) dJ0_indexOf_7cf53_30 (Nat.zero_le _) (Nat.zero_le _) (fun r2 hv => ?_)
    exact False.elim hv
  · have hv := hv.2 c
    refine lv_aload_n hx hb dJ0_indexOf_7cf53_7 rfl (lv_at hl 0 rfl) ?_
    refine vk_getf (v := .ref (az (8 + i))) hx hb (hZ.st hi).2.2.1 va_S.rf hown (hts (.fieldLink RJ0 9 "java/lang/String" "value" "[B") (List.mem_of_getElem? (i := 1) rfl)) (fun _ h => h) dJ0_indexOf_7cf53_8 ?_
    refine lv_iload_n hx hb dJ0_indexOf_7cf53_11 rfl (lv_at hl 1 rfl) ?_
    refine lv_iload_n hx hb dJ0_indexOf_7cf53_12 rfl (lv_at hl 2 rfl) ?_
    refine lv_aload_n hx hb dJ0_indexOf_7cf53_13 rfl (lv_at hl 0 rfl) ?_
    refine G_callVk (i := i) hi hC (fun _ h => h) hZ va_S.rf (c_J0_length_8abf5 l az (i := i) hi  _ hv) (cwV 0 hts gJ0_indexOf_7cf53_J0_length_8abf5 rfl rfl rfl (by decide +kernel) ⟨Nat.le_of_ble_eq_true rfl, Nat.le_of_ble_eq_true rfl⟩) rfl hl rfl (Nat.le_of_ble_eq_true rfl) dJ0_indexOf_7cf53_14 (Nat.zero_le _) (Nat.zero_le _) (fun r3 hv => ?_)
    refine G_callSk hC (fun _ h => h) hZ va_S.rf (c_J1_indexOf_4cfef l az (i := i) hi x1 x2 r3 _ hv) (va_cwS 4 hts gJ0_indexOf_7cf53_J1_indexOf_4cfef rfl rfl rfl (by decide +kernel) ⟨Nat.le_of_ble_eq_true rfl, Nat.le_of_ble_eq_true rfl⟩) rfl hl rfl (Nat.le_of_ble_eq_true rfl) dJ0_indexOf_7cf53_17 (Nat.zero_le _) (Nat.zero_le _) (fun r4 hv => ?_)
    refine lv_goto (tgt := 36) hx hb dJ0_indexOf_7cf53_20 (by decide) ?_
    exact S_iret hC hr hk (by rfl) hv dJ0_indexOf_7cf53_36
def V_J0_indexOf_0f7a4 (i : Nat) (x1 : Int32) (post : Int32 → Prop) : Prop := V_J0_indexOf_7cf53 i x1 0 (fun r1 => post r1)
abbrev rm_J0_indexOf_0f7a4 : Room := { frames := 3, cells := 0, slots := 0, locals := 70 }
set_option maxHeartbeats 4000000 in
set_option maxRecDepth 100000 in
theorem c_J0_indexOf_0f7a4 (l : Launch) (az : Nat → Nat) {i : Nat} (hi : i < 3) (x1 : Int32) (post : Int32 → Prop) (hv : V_J0_indexOf_0f7a4 i x1 post) : uMk l yJ0_indexOf_0f7a4 wsJ0_indexOf_0f7a4 rm_J0_indexOf_0f7a4 az [.ref (az (5 + i)), .int x1] post := by
  refine u_ofK (cc := cJ0_indexOf_0f7a4) (maxL := 2) (by decide) rfl (Nat.le_of_ble_eq_true rfl) ?_
  intro p e s m args below meth c ls hC hZ hr hk hl
  have hx := hC.1; have hb := hC.2.1; have hml := hC.2.2.1; have hts := hC.2.2.2.2
  have hown : s.vm.findClass RJ0 = some m.cls := hC.2.2.2.1
  have hl : lv_has ls 2 [(0, .ref (az (5 + i))), (1, .int x1)] := hl
  unfold V_J0_indexOf_0f7a4 at hv
  refine lv_aload_n hx hb dJ0_indexOf_0f7a4_0 rfl (lv_at hl 0 rfl) ?_
  refine lv_iload_n hx hb dJ0_indexOf_0f7a4_1 rfl (lv_at hl 1 rfl) ?_
  refine lv_iconst (v := 0) hx hb dJ0_indexOf_0f7a4_2 (by decide) ?_
  refine G_callVk (i := i) hi hC (fun _ h => h) hZ va_S.rf (c_J0_indexOf_7cf53 l az (i := i) hi x1 0 _ hv) (cwV 2 hts gJ0_indexOf_0f7a4_J0_indexOf_7cf53 rfl rfl rfl (by decide +kernel) ⟨Nat.le_of_ble_eq_true rfl, Nat.le_of_ble_eq_true rfl⟩) rfl hl rfl (Nat.le_of_ble_eq_true rfl) dJ0_indexOf_0f7a4_3 (Nat.zero_le _) (Nat.zero_le _) (fun r1 hv => ?_)
  exact S_iret hC hr hk (by rfl) hv dJ0_indexOf_0f7a4_6
