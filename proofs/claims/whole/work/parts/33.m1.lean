def V_X7_isCell (x1 : Int32) (post : Int32 → Prop) : Prop := ((x1 < 0 → post 0) ∧ (¬ x1 < 0 → ((64 ≤ x1 → post 0) ∧ (¬ 64 ≤ x1 → post 1))))
abbrev rm_X7_isCell : Room := { frames := 0, cells := 0, slots := 0, locals := 0 }
set_option maxHeartbeats 4000000 in
set_option maxRecDepth 100000 in
theorem c_X7_isCell (l : Launch) (x1 : Int32) (post : Int32 → Prop) (hv : V_X7_isCell x1 post) : uMs l yX7_isCell wsX7_isCell rm_X7_isCell [.int x1] post := by
  refine u_ofS (cc := cX7_isCell) (maxL := 1) (by decide) rfl (Nat.le_of_ble_eq_true rfl) ?_
  intro p e s m args below meth c ls hC hN hr hk hl
  have hx := hC.1; have hb := hC.2.1; have hml := hC.2.2.1; have hts := hC.2.2.2.2
  have hown : s.vm.findClass RX7 = some m.cls := hC.2.2.2.1
  have hl : lv_has ls 1 [(0, .int x1)] := hl
  unfold V_X7_isCell at hv
  refine lv_iload_n hx hb dX7_isCell_0 rfl (lv_at hl 0 rfl) ?_
  refine lv_if_lt (tgt := 14) hx hb dX7_isCell_1 (by decide) (fun c => ?_) (fun c => ?_)
  · have hv := hv.1 c
    refine lv_iconst (v := 0) hx hb dX7_isCell_14 (by decide) ?_
    exact S_iret hC hr hk (by rfl) hv dX7_isCell_15
  · have hv := hv.2 c
    refine lv_iload_n hx hb dX7_isCell_4 rfl (lv_at hl 0 rfl) ?_
    refine lv_bipush (v := 64) hx hb dX7_isCell_5 (by decide) ?_
    refine lv_icmp_ge (tgt := 14) hx hb dX7_isCell_7 (by decide) (fun c => ?_) (fun c => ?_)
    · have hv := hv.1 c
      refine lv_iconst (v := 0) hx hb dX7_isCell_14 (by decide) ?_
      exact S_iret hC hr hk (by rfl) hv dX7_isCell_15
    · have hv := hv.2 c
      refine lv_iconst (v := 1) hx hb dX7_isCell_10 (by decide) ?_
      refine lv_goto (tgt := 15) hx hb dX7_isCell_11 (by decide) ?_
      exact S_iret hC hr hk (by rfl) hv dX7_isCell_15
def J_X7_moved_55 (x1 : Int32) (x2 : Int32) (post : Int32 → Prop)  (v0 : Int32) (v2 : Int32) (t0 : Int32) : Prop := ((((v0 - v0 / 8 * 8) + v2) < 0 → post (-1)) ∧ (¬ ((v0 - v0 / 8 * 8) + v2) < 0 → ((7 < ((v0 - v0 / 8 * 8) + v2) → post (-1)) ∧ (¬ 7 < ((v0 - v0 / 8 * 8) + v2) → ((((v0 / 8) + t0) < 0 → post (-1)) ∧ (¬ ((v0 / 8) + t0) < 0 → ((((v0 / 8) + t0) ≤ 7 → post ((8 * ((v0 / 8) + t0)) + ((v0 - v0 / 8 * 8) + v2))) ∧ (¬ ((v0 / 8) + t0) ≤ 7 → post (-1)))))))))
def J_X7_moved_54 (x1 : Int32) (x2 : Int32) (post : Int32 → Prop)  (v0 : Int32) (v2 : Int32) : Prop := J_X7_moved_55 x1 x2 post v0 v2 (-1)
def J_X7_moved_35 (x1 : Int32) (x2 : Int32) (post : Int32 → Prop)  (v0 : Int32) (v2 : Int32) : Prop := J_X7_moved_55 x1 x2 post v0 v2 0
def J_X7_moved_23 (x1 : Int32) (x2 : Int32) (post : Int32 → Prop)  (v0 : Int32) (v1 : Int32) (t0 : Int32) : Prop := ((v1 = 2 → J_X7_moved_35 x1 x2 post v0 t0) ∧ (¬ v1 = 2 → ((¬ v1 = 6 → ((v1 ≤ 2 → J_X7_moved_54 x1 x2 post v0 t0) ∧ (¬ v1 ≤ 2 → ((6 ≤ v1 → J_X7_moved_54 x1 x2 post v0 t0) ∧ (¬ 6 ≤ v1 → J_X7_moved_55 x1 x2 post v0 t0 1))))) ∧ (v1 = 6 → J_X7_moved_35 x1 x2 post v0 t0))))
def J_X7_moved_9 (x1 : Int32) (x2 : Int32) (post : Int32 → Prop)  (v0 : Int32) (v1 : Int32) : Prop := J_X7_moved_23 x1 x2 post v0 v1 0
def V_X7_moved (x1 : Int32) (x2 : Int32) (post : Int32 → Prop) : Prop := ((x2 = 0 → J_X7_moved_9 x1 x2 post x1 x2) ∧ (¬ x2 = 0 → ((¬ x2 = 4 → ((4 ≤ x2 → J_X7_moved_23 x1 x2 post x1 x2 (-1)) ∧ (¬ 4 ≤ x2 → J_X7_moved_23 x1 x2 post x1 x2 1))) ∧ (x2 = 4 → J_X7_moved_9 x1 x2 post x1 x2))))
abbrev rm_X7_moved : Room := { frames := 0, cells := 0, slots := 0, locals := 0 }
set_option maxHeartbeats 4000000 in
set_option maxRecDepth 100000 in
theorem c_X7_moved (l : Launch) (x1 : Int32) (x2 : Int32) (post : Int32 → Prop) (hv : V_X7_moved x1 x2 post) : uMs l yX7_moved wsX7_moved rm_X7_moved [.int x1, .int x2] post := by
  refine u_ofS (cc := cX7_moved) (maxL := 6) (by decide) rfl (Nat.le_of_ble_eq_true rfl) ?_
  intro p e s m args below meth c ls hC hN hr hk hl
  have hx := hC.1; have hb := hC.2.1; have hml := hC.2.2.1; have hts := hC.2.2.2.2
  have hown : s.vm.findClass RX7 = some m.cls := hC.2.2.2.1
  have hl : lv_has ls 6 [(0, .int x1), (1, .int x2)] := hl
  unfold V_X7_moved at hv
  have j_55 : ∀ (v0 : Int32) (v2 : Int32) (t0 : Int32), J_X7_moved_55 x1 x2 post v0 v2 t0 → ∀ (ls : Array Slot), lv_has ls 6 [(0, .int v0), (2, .int v2)] → W p l e rm_X7_moved s m args below meth c s.heap [] 0 0 (MQ below (vp_Si post) args s 0 0 (fun _ => False)) (F0 m 55 ls [.int t0]) := by
    intro  v0 v2 t0  hv
    intro ls hl
    unfold J_X7_moved_55 at hv
    refine lv_istore_n (lv' := [(3, .int t0), (0, .int v0), (2, .int v2)]) hx hb dX7_moved_55 rfl hl (by decide) rfl (fun ls hl => ?_)
    refine lv_iload_n hx hb dX7_moved_56 rfl (lv_at hl 1 rfl) ?_
    refine lv_bipush (v := 8) hx hb dX7_moved_57 (by decide) ?_
    refine lv_irem hx hb dX7_moved_59 (by decide) ?_
    refine lv_iload_n hx hb dX7_moved_60 rfl (lv_at hl 2 rfl) ?_
    refine lv_iadd hx hb dX7_moved_61 ?_
    refine lv_istore (lv' := [(4, .int ((v0 - v0 / 8 * 8) + v2)), (3, .int t0), (0, .int v0), (2, .int v2)]) hx hb dX7_moved_62 hl (by decide) rfl (fun ls hl => ?_)
    refine lv_iload_n hx hb dX7_moved_64 rfl (lv_at hl 2 rfl) ?_
    refine lv_bipush (v := 8) hx hb dX7_moved_65 (by decide) ?_
    refine lv_idiv hx hb dX7_moved_67 (by decide) ?_
    refine lv_iload_n hx hb dX7_moved_68 rfl (lv_at hl 1 rfl) ?_
    refine lv_iadd hx hb dX7_moved_69 ?_
    refine lv_istore (lv' := [(5, .int ((v0 / 8) + t0)), (4, .int ((v0 - v0 / 8 * 8) + v2)), (3, .int t0), (0, .int v0), (2, .int v2)]) hx hb dX7_moved_70 hl (by decide) rfl (fun ls hl => ?_)
    refine lv_iload hx hb dX7_moved_72 (lv_at hl 1 rfl) ?_
    refine lv_if_lt (tgt := 96) hx hb dX7_moved_74 (by decide) (fun c => ?_) (fun c => ?_)
    · have hv := hv.1 c
      refine lv_iconst (v := (-1)) hx hb dX7_moved_96 (by decide) ?_
      refine lv_goto (tgt := 108) hx hb dX7_moved_97 (by decide) ?_
      exact S_iret hC hr hk (by rfl) hv dX7_moved_108
    · have hv := hv.2 c
      refine lv_iload hx hb dX7_moved_77 (lv_at hl 1 rfl) ?_
      refine lv_bipush (v := 7) hx hb dX7_moved_79 (by decide) ?_
      refine lv_icmp_gt (tgt := 96) hx hb dX7_moved_81 (by decide) (fun c => ?_) (fun c => ?_)
      · have hv := hv.1 c
        refine lv_iconst (v := (-1)) hx hb dX7_moved_96 (by decide) ?_
        refine lv_goto (tgt := 108) hx hb dX7_moved_97 (by decide) ?_
        exact S_iret hC hr hk (by rfl) hv dX7_moved_108
      · have hv := hv.2 c
        refine lv_iload hx hb dX7_moved_84 (lv_at hl 0 rfl) ?_
        refine lv_if_lt (tgt := 96) hx hb dX7_moved_86 (by decide) (fun c => ?_) (fun c => ?_)
        · have hv := hv.1 c
          refine lv_iconst (v := (-1)) hx hb dX7_moved_96 (by decide) ?_
          refine lv_goto (tgt := 108) hx hb dX7_moved_97 (by decide) ?_
          exact S_iret hC hr hk (by rfl) hv dX7_moved_108
        · have hv := hv.2 c
          refine lv_iload hx hb dX7_moved_89 (lv_at hl 0 rfl) ?_
          refine lv_bipush (v := 7) hx hb dX7_moved_91 (by decide) ?_
          refine lv_icmp_le (tgt := 100) hx hb dX7_moved_93 (by decide) (fun c => ?_) (fun c => ?_)
          · have hv := hv.1 c
            refine lv_bipush (v := 8) hx hb dX7_moved_100 (by decide) ?_
            refine lv_iload hx hb dX7_moved_102 (lv_at hl 0 rfl) ?_
            refine lv_imul hx hb dX7_moved_104 ?_
            refine lv_iload hx hb dX7_moved_105 (lv_at hl 1 rfl) ?_
            refine lv_iadd hx hb dX7_moved_107 ?_
            exact S_iret hC hr hk (by rfl) hv dX7_moved_108
          · have hv := hv.2 c
            refine lv_iconst (v := (-1)) hx hb dX7_moved_96 (by decide) ?_
            refine lv_goto (tgt := 108) hx hb dX7_moved_97 (by decide) ?_
            exact S_iret hC hr hk (by rfl) hv dX7_moved_108
  have j_54 : ∀ (v0 : Int32) (v2 : Int32), J_X7_moved_54 x1 x2 post v0 v2 → ∀ (ls : Array Slot), lv_has ls 6 [(0, .int v0), (2, .int v2)] → W p l e rm_X7_moved s m args below meth c s.heap [] 0 0 (MQ below (vp_Si post) args s 0 0 (fun _ => False)) (F0 m 54 ls []) := by
    intro  v0 v2  hv
    intro ls hl
    unfold J_X7_moved_54 at hv
    refine lv_iconst (v := (-1)) hx hb dX7_moved_54 (by decide) ?_
    exact j_55  _ _ _  hv _ (lv_sub hl [0, 1] rfl)
  have j_35 : ∀ (v0 : Int32) (v2 : Int32), J_X7_moved_35 x1 x2 post v0 v2 → ∀ (ls : Array Slot), lv_has ls 6 [(0, .int v0), (2, .int v2)] → W p l e rm_X7_moved s m args below meth c s.heap [] 0 0 (MQ below (vp_Si post) args s 0 0 (fun _ => False)) (F0 m 35 ls []) := by
    intro  v0 v2  hv
    intro ls hl
    unfold J_X7_moved_35 at hv
    refine lv_iconst (v := 0) hx hb dX7_moved_35 (by decide) ?_
    refine lv_goto (tgt := 55) hx hb dX7_moved_36 (by decide) ?_
    exact j_55  _ _ _  hv _ (lv_sub hl [0, 1] rfl)
  have j_23 : ∀ (v0 : Int32) (v1 : Int32) (t0 : Int32), J_X7_moved_23 x1 x2 post v0 v1 t0 → ∀ (ls : Array Slot), lv_has ls 6 [(0, .int v0), (1, .int v1)] → W p l e rm_X7_moved s m args below meth c s.heap [] 0 0 (MQ below (vp_Si post) args s 0 0 (fun _ => False)) (F0 m 23 ls [.int t0]) := by
    intro  v0 v1 t0  hv
    intro ls hl
    unfold J_X7_moved_23 at hv
    refine lv_istore_n (lv' := [(2, .int t0), (0, .int v0), (1, .int v1)]) hx hb dX7_moved_23 rfl hl (by decide) rfl (fun ls hl => ?_)
    refine lv_iload_n hx hb dX7_moved_24 rfl (lv_at hl 2 rfl) ?_
    refine lv_iconst (v := 2) hx hb dX7_moved_25 (by decide) ?_
    refine lv_icmp_eq (tgt := 35) hx hb dX7_moved_26 (by decide) (fun c => ?_) (fun c => ?_)
    · have hv := hv.1 c
      exact j_35  _ _  hv _ (lv_sub hl [1, 0] rfl)
    · have hv := hv.2 c
      refine lv_iload_n hx hb dX7_moved_29 rfl (lv_at hl 2 rfl) ?_
      refine lv_bipush (v := 6) hx hb dX7_moved_30 (by decide) ?_
      refine lv_icmp_ne (tgt := 39) hx hb dX7_moved_32 (by decide) (fun c => ?_) (fun c => ?_)
      · have hv := hv.1 c
        refine lv_iload_n hx hb dX7_moved_39 rfl (lv_at hl 2 rfl) ?_
        refine lv_iconst (v := 2) hx hb dX7_moved_40 (by decide) ?_
        refine lv_icmp_le (tgt := 54) hx hb dX7_moved_41 (by decide) (fun c => ?_) (fun c => ?_)
        · have hv := hv.1 c
          exact j_54  _ _  hv _ (lv_sub hl [1, 0] rfl)
        · have hv := hv.2 c
          refine lv_iload_n hx hb dX7_moved_44 rfl (lv_at hl 2 rfl) ?_
          refine lv_bipush (v := 6) hx hb dX7_moved_45 (by decide) ?_
          refine lv_icmp_ge (tgt := 54) hx hb dX7_moved_47 (by decide) (fun c => ?_) (fun c => ?_)
          · have hv := hv.1 c
            exact j_54  _ _  hv _ (lv_sub hl [1, 0] rfl)
          · have hv := hv.2 c
            refine lv_iconst (v := 1) hx hb dX7_moved_50 (by decide) ?_
            refine lv_goto (tgt := 55) hx hb dX7_moved_51 (by decide) ?_
            exact j_55  _ _ _  hv _ (lv_sub hl [1, 0] rfl)
      · have hv := hv.2 c
        exact j_35  _ _  hv _ (lv_sub hl [1, 0] rfl)
  have j_9 : ∀ (v0 : Int32) (v1 : Int32), J_X7_moved_9 x1 x2 post v0 v1 → ∀ (ls : Array Slot), lv_has ls 6 [(0, .int v0), (1, .int v1)] → W p l e rm_X7_moved s m args below meth c s.heap [] 0 0 (MQ below (vp_Si post) args s 0 0 (fun _ => False)) (F0 m 9 ls []) := by
    intro  v0 v1  hv
    intro ls hl
    unfold J_X7_moved_9 at hv
    refine lv_iconst (v := 0) hx hb dX7_moved_9 (by decide) ?_
    refine lv_goto (tgt := 23) hx hb dX7_moved_10 (by decide) ?_
    exact j_23  _ _ _  hv _ (lv_sub hl [0, 1] rfl)
  refine lv_iload_n hx hb dX7_moved_0 rfl (lv_at hl 1 rfl) ?_
  refine lv_if_eq (tgt := 9) hx hb dX7_moved_1 (by decide) (fun c => ?_) (fun c => ?_)
  · have hv := hv.1 c
    exact j_9  _ _  hv _ (lv_sub hl [0, 1] rfl)
  · have hv := hv.2 c
    refine lv_iload_n hx hb dX7_moved_4 rfl (lv_at hl 1 rfl) ?_
    refine lv_iconst (v := 4) hx hb dX7_moved_5 (by decide) ?_
    refine lv_icmp_ne (tgt := 13) hx hb dX7_moved_6 (by decide) (fun c => ?_) (fun c => ?_)
    · have hv := hv.1 c
      refine lv_iload_n hx hb dX7_moved_13 rfl (lv_at hl 1 rfl) ?_
      refine lv_iconst (v := 4) hx hb dX7_moved_14 (by decide) ?_
      refine lv_icmp_ge (tgt := 22) hx hb dX7_moved_15 (by decide) (fun c => ?_) (fun c => ?_)
      · have hv := hv.1 c
        refine lv_iconst (v := (-1)) hx hb dX7_moved_22 (by decide) ?_
        exact j_23  _ _ _  hv _ (lv_sub hl [0, 1] rfl)
      · have hv := hv.2 c
        refine lv_iconst (v := 1) hx hb dX7_moved_18 (by decide) ?_
        refine lv_goto (tgt := 23) hx hb dX7_moved_19 (by decide) ?_
        exact j_23  _ _ _  hv _ (lv_sub hl [0, 1] rfl)
    · have hv := hv.2 c
      exact j_9  _ _  hv _ (lv_sub hl [0, 1] rfl)
def J_X7_part_10 (x1 : Int32) (x2 : Int32) (x3 : Int32) (post : Int32 → Prop)  (v0 : Int32) (v1 : Int32) (v2 : Int32) (t0 : Int32) : Prop := (¬ (2 * v2) = 0) ∧ (((0 ≤ v1 → post (((((2 * v0) * t0) + v2) - 1) / (2 * v2))) ∧ (¬ 0 ≤ v1 → post (-(((((2 * v0) * t0) + v2) - 1) / (2 * v2))))))
def V_X7_part (x1 : Int32) (x2 : Int32) (x3 : Int32) (post : Int32 → Prop) : Prop := ((0 ≤ x2 → J_X7_part_10 x1 x2 x3 post x1 x2 x3 x2) ∧ (¬ 0 ≤ x2 → J_X7_part_10 x1 x2 x3 post x1 x2 x3 (-x2)))
abbrev rm_X7_part : Room := { frames := 0, cells := 0, slots := 0, locals := 0 }
set_option maxHeartbeats 4000000 in
set_option maxRecDepth 100000 in
theorem c_X7_part (l : Launch) (x1 : Int32) (x2 : Int32) (x3 : Int32) (post : Int32 → Prop) (hv : V_X7_part x1 x2 x3 post) : uMs l yX7_part wsX7_part rm_X7_part [.int x1, .int x2, .int x3] post := by
  refine u_ofS (cc := cX7_part) (maxL := 5) (by decide) rfl (Nat.le_of_ble_eq_true rfl) ?_
  intro p e s m args below meth c ls hC hN hr hk hl
  have hx := hC.1; have hb := hC.2.1; have hml := hC.2.2.1; have hts := hC.2.2.2.2
  have hown : s.vm.findClass RX7 = some m.cls := hC.2.2.2.1
  have hl : lv_has ls 5 [(0, .int x1), (1, .int x2), (2, .int x3)] := hl
  unfold V_X7_part at hv
  have j_10 : ∀ (v0 : Int32) (v1 : Int32) (v2 : Int32) (t0 : Int32), J_X7_part_10 x1 x2 x3 post v0 v1 v2 t0 → ∀ (ls : Array Slot), lv_has ls 5 [(0, .int v0), (1, .int v1), (2, .int v2)] → W p l e rm_X7_part s m args below meth c s.heap [] 0 0 (MQ below (vp_Si post) args s 0 0 (fun _ => False)) (F0 m 10 ls [.int t0]) := by
    intro  v0 v1 v2 t0  hv
    intro ls hl
    unfold J_X7_part_10 at hv
    refine lv_istore_n (lv' := [(3, .int t0), (0, .int v0), (1, .int v1), (2, .int v2)]) hx hb dX7_part_10 rfl hl (by decide) rfl (fun ls hl => ?_)
    refine lv_iconst (v := 2) hx hb dX7_part_11 (by decide) ?_
    refine lv_iload_n hx hb dX7_part_12 rfl (lv_at hl 1 rfl) ?_
    refine lv_imul hx hb dX7_part_13 ?_
    refine lv_iload_n hx hb dX7_part_14 rfl (lv_at hl 0 rfl) ?_
    refine lv_imul hx hb dX7_part_15 ?_
    refine lv_iload_n hx hb dX7_part_16 rfl (lv_at hl 3 rfl) ?_
    refine lv_iadd hx hb dX7_part_17 ?_
    refine lv_iconst (v := 1) hx hb dX7_part_18 (by decide) ?_
    refine lv_isub hx hb dX7_part_19 ?_
    refine lv_iconst (v := 2) hx hb dX7_part_20 (by decide) ?_
    refine lv_iload_n hx hb dX7_part_21 rfl (lv_at hl 3 rfl) ?_
    refine lv_imul hx hb dX7_part_22 ?_
    refine lv_idiv hx hb dX7_part_23 hv.1 ?_
    have hv := hv.2
    refine lv_istore (lv' := [(4, .int (((((2 * v0) * t0) + v2) - 1) / (2 * v2))), (3, .int t0), (0, .int v0), (1, .int v1), (2, .int v2)]) hx hb dX7_part_24 hl (by decide) rfl (fun ls hl => ?_)
    refine lv_iload_n hx hb dX7_part_26 rfl (lv_at hl 3 rfl) ?_
    refine lv_if_ge (tgt := 36) hx hb dX7_part_27 (by decide) (fun c => ?_) (fun c => ?_)
    · have hv := hv.1 c
      refine lv_iload hx hb dX7_part_36 (lv_at hl 0 rfl) ?_
      exact S_iret hC hr hk (by rfl) hv dX7_part_38
    · have hv := hv.2 c
      refine lv_iload hx hb dX7_part_30 (lv_at hl 0 rfl) ?_
      refine lv_ineg hx hb dX7_part_32 ?_
      refine lv_goto (tgt := 38) hx hb dX7_part_33 (by decide) ?_
      exact S_iret hC hr hk (by rfl) hv dX7_part_38
  refine lv_iload_n hx hb dX7_part_0 rfl (lv_at hl 1 rfl) ?_
  refine lv_if_ge (tgt := 9) hx hb dX7_part_1 (by decide) (fun c => ?_) (fun c => ?_)
  · have hv := hv.1 c
    refine lv_iload_n hx hb dX7_part_9 rfl (lv_at hl 1 rfl) ?_
    exact j_10  _ _ _ _  hv _ (lv_sub hl [0, 1, 2] rfl)
  · have hv := hv.2 c
    refine lv_iload_n hx hb dX7_part_4 rfl (lv_at hl 1 rfl) ?_
    refine lv_ineg hx hb dX7_part_5 ?_
    refine lv_goto (tgt := 10) hx hb dX7_part_6 (by decide) ?_
    exact j_10  _ _ _ _  hv _ (lv_sub hl [0, 1, 2] rfl)
def V_X7_turnOf (x1 : Int32) (post : Int32 → Prop) : Prop := post (x1 / 100000)
abbrev rm_X7_turnOf : Room := { frames := 0, cells := 0, slots := 0, locals := 0 }
set_option maxHeartbeats 4000000 in
set_option maxRecDepth 100000 in
theorem c_X7_turnOf (l : Launch) (x1 : Int32) (post : Int32 → Prop) (hv : V_X7_turnOf x1 post) : uMs l yX7_turnOf wsX7_turnOf rm_X7_turnOf [.int x1] post := by
  refine u_ofS (cc := cX7_turnOf) (maxL := 1) (by decide) rfl (Nat.le_of_ble_eq_true rfl) ?_
  intro p e s m args below meth c ls hC hN hr hk hl
  have hx := hC.1; have hb := hC.2.1; have hml := hC.2.2.1; have hts := hC.2.2.2.2
  have hown : s.vm.findClass RX7 = some m.cls := hC.2.2.2.1
  have hl : lv_has ls 1 [(0, .int x1)] := hl
  unfold V_X7_turnOf at hv
  refine lv_iload_n hx hb dX7_turnOf_0 rfl (lv_at hl 0 rfl) ?_
  refine lv_ldc (v := 100000) hx hb hown (hts (.constant RX7 152 (100000)) (List.mem_of_getElem? (i := 1) rfl)) dX7_turnOf_1 ?_
  refine lv_idiv hx hb dX7_turnOf_3 (by decide) ?_
  exact S_iret hC hr hk (by rfl) hv dX7_turnOf_4
def V_X7_cellIn (x1 : Int32) (post : Int32 → Prop) : Prop := post ((x1 / 1000) - (x1 / 1000) / 100 * 100)
abbrev rm_X7_cellIn : Room := { frames := 0, cells := 0, slots := 0, locals := 0 }
set_option maxHeartbeats 4000000 in
set_option maxRecDepth 100000 in
theorem c_X7_cellIn (l : Launch) (x1 : Int32) (post : Int32 → Prop) (hv : V_X7_cellIn x1 post) : uMs l yX7_cellIn wsX7_cellIn rm_X7_cellIn [.int x1] post := by
  refine u_ofS (cc := cX7_cellIn) (maxL := 1) (by decide) rfl (Nat.le_of_ble_eq_true rfl) ?_
  intro p e s m args below meth c ls hC hN hr hk hl
  have hx := hC.1; have hb := hC.2.1; have hml := hC.2.2.1; have hts := hC.2.2.2.2
  have hown : s.vm.findClass RX7 = some m.cls := hC.2.2.2.1
  have hl : lv_has ls 1 [(0, .int x1)] := hl
  unfold V_X7_cellIn at hv
  refine lv_iload_n hx hb dX7_cellIn_0 rfl (lv_at hl 0 rfl) ?_
  refine lv_sipush (v := 1000) hx hb dX7_cellIn_1 (by decide) ?_
  refine lv_idiv hx hb dX7_cellIn_4 (by decide) ?_
  refine lv_bipush (v := 100) hx hb dX7_cellIn_5 (by decide) ?_
  refine lv_irem hx hb dX7_cellIn_7 (by decide) ?_
  exact S_iret hC hr hk (by rfl) hv dX7_cellIn_8
def V_X7_unitIn (x1 : Int32) (post : Int32 → Prop) : Prop := post (x1 - x1 / 1000 * 1000)
abbrev rm_X7_unitIn : Room := { frames := 0, cells := 0, slots := 0, locals := 0 }
set_option maxHeartbeats 4000000 in
set_option maxRecDepth 100000 in
theorem c_X7_unitIn (l : Launch) (x1 : Int32) (post : Int32 → Prop) (hv : V_X7_unitIn x1 post) : uMs l yX7_unitIn wsX7_unitIn rm_X7_unitIn [.int x1] post := by
  refine u_ofS (cc := cX7_unitIn) (maxL := 1) (by decide) rfl (Nat.le_of_ble_eq_true rfl) ?_
  intro p e s m args below meth c ls hC hN hr hk hl
  have hx := hC.1; have hb := hC.2.1; have hml := hC.2.2.1; have hts := hC.2.2.2.2
  have hown : s.vm.findClass RX7 = some m.cls := hC.2.2.2.1
  have hl : lv_has ls 1 [(0, .int x1)] := hl
  unfold V_X7_unitIn at hv
  refine lv_iload_n hx hb dX7_unitIn_0 rfl (lv_at hl 0 rfl) ?_
  refine lv_sipush (v := 1000) hx hb dX7_unitIn_1 (by decide) ?_
  refine lv_irem hx hb dX7_unitIn_4 (by decide) ?_
  exact S_iret hC hr hk (by rfl) hv dX7_unitIn_5
def V_X7_isBehind (x1 : Int32) (x2 : Int32) (post : Int32 → Prop) : Prop := V_X7_turnOf x1 (fun r1 => V_X7_turnOf x2 (fun r2 => ((r2 < r1 → post 1) ∧ (¬ r2 < r1 → V_X7_turnOf x1 (fun r3 => V_X7_turnOf x2 (fun r4 => ((¬ r3 = r4 → post 0) ∧ (r3 = r4 → V_X7_unitIn x1 (fun r5 => V_X7_unitIn x2 (fun r6 => ((r5 ≤ r6 → post 0) ∧ (¬ r5 ≤ r6 → post 1))))))))))))
abbrev rm_X7_isBehind : Room := { frames := 1, cells := 0, slots := 0, locals := 20 }
set_option maxHeartbeats 4000000 in
set_option maxRecDepth 100000 in
theorem c_X7_isBehind (l : Launch) (x1 : Int32) (x2 : Int32) (post : Int32 → Prop) (hv : V_X7_isBehind x1 x2 post) : uMs l yX7_isBehind wsX7_isBehind rm_X7_isBehind [.int x1, .int x2] post := by
  refine u_ofS (cc := cX7_isBehind) (maxL := 2) (by decide) rfl (Nat.le_of_ble_eq_true rfl) ?_
  intro p e s m args below meth c ls hC hN hr hk hl
  have hx := hC.1; have hb := hC.2.1; have hml := hC.2.2.1; have hts := hC.2.2.2.2
  have hown : s.vm.findClass RX7 = some m.cls := hC.2.2.2.1
  have hl : lv_has ls 2 [(0, .int x1), (1, .int x2)] := hl
  unfold V_X7_isBehind at hv
  refine lv_iload_n hx hb dX7_isBehind_0 rfl (lv_at hl 0 rfl) ?_
  refine G_callSs hC hN (c_X7_turnOf l x1 _ hv) (va_cwS 1 hts gX7_isBehind_X7_turnOf rfl rfl rfl (by decide +kernel) ⟨Nat.le_of_ble_eq_true rfl, Nat.le_of_ble_eq_true rfl⟩) rfl hl rfl (Nat.le_of_ble_eq_true rfl) dX7_isBehind_1 (Nat.zero_le _) (Nat.zero_le _) (fun r1 hv => ?_)
  refine lv_iload_n hx hb dX7_isBehind_4 rfl (lv_at hl 1 rfl) ?_
  refine G_callSs hC hN (c_X7_turnOf l x2 _ hv) (va_cwS 1 hts gX7_isBehind_X7_turnOf rfl rfl rfl (by decide +kernel) ⟨Nat.le_of_ble_eq_true rfl, Nat.le_of_ble_eq_true rfl⟩) rfl hl rfl (Nat.le_of_ble_eq_true rfl) dX7_isBehind_5 (Nat.zero_le _) (Nat.zero_le _) (fun r2 hv => ?_)
  refine lv_icmp_gt (tgt := 33) hx hb dX7_isBehind_8 (by decide) (fun c => ?_) (fun c => ?_)
  · have hv := hv.1 c
    refine lv_iconst (v := 1) hx hb dX7_isBehind_33 (by decide) ?_
    refine lv_goto (tgt := 38) hx hb dX7_isBehind_34 (by decide) ?_
    exact S_iret hC hr hk (by rfl) hv dX7_isBehind_38
  · have hv := hv.2 c
    refine lv_iload_n hx hb dX7_isBehind_11 rfl (lv_at hl 0 rfl) ?_
    refine G_callSs hC hN (c_X7_turnOf l x1 _ hv) (va_cwS 1 hts gX7_isBehind_X7_turnOf rfl rfl rfl (by decide +kernel) ⟨Nat.le_of_ble_eq_true rfl, Nat.le_of_ble_eq_true rfl⟩) rfl hl rfl (Nat.le_of_ble_eq_true rfl) dX7_isBehind_12 (Nat.zero_le _) (Nat.zero_le _) (fun r3 hv => ?_)
    refine lv_iload_n hx hb dX7_isBehind_15 rfl (lv_at hl 1 rfl) ?_
    refine G_callSs hC hN (c_X7_turnOf l x2 _ hv) (va_cwS 1 hts gX7_isBehind_X7_turnOf rfl rfl rfl (by decide +kernel) ⟨Nat.le_of_ble_eq_true rfl, Nat.le_of_ble_eq_true rfl⟩) rfl hl rfl (Nat.le_of_ble_eq_true rfl) dX7_isBehind_16 (Nat.zero_le _) (Nat.zero_le _) (fun r4 hv => ?_)
    refine lv_icmp_ne (tgt := 37) hx hb dX7_isBehind_19 (by decide) (fun c => ?_) (fun c => ?_)
    · have hv := hv.1 c
      refine lv_iconst (v := 0) hx hb dX7_isBehind_37 (by decide) ?_
      exact S_iret hC hr hk (by rfl) hv dX7_isBehind_38
    · have hv := hv.2 c
      refine lv_iload_n hx hb dX7_isBehind_22 rfl (lv_at hl 0 rfl) ?_
      refine G_callSs hC hN (c_X7_unitIn l x1 _ hv) (va_cwS 1 hts gX7_isBehind_X7_unitIn rfl rfl rfl (by decide +kernel) ⟨Nat.le_of_ble_eq_true rfl, Nat.le_of_ble_eq_true rfl⟩) rfl hl rfl (Nat.le_of_ble_eq_true rfl) dX7_isBehind_23 (Nat.zero_le _) (Nat.zero_le _) (fun r5 hv => ?_)
      refine lv_iload_n hx hb dX7_isBehind_26 rfl (lv_at hl 1 rfl) ?_
      refine G_callSs hC hN (c_X7_unitIn l x2 _ hv) (va_cwS 1 hts gX7_isBehind_X7_unitIn rfl rfl rfl (by decide +kernel) ⟨Nat.le_of_ble_eq_true rfl, Nat.le_of_ble_eq_true rfl⟩) rfl hl rfl (Nat.le_of_ble_eq_true rfl) dX7_isBehind_27 (Nat.zero_le _) (Nat.zero_le _) (fun r6 hv => ?_)
      refine lv_icmp_le (tgt := 37) hx hb dX7_isBehind_30 (by decide) (fun c => ?_) (fun c => ?_)
      · have hv := hv.1 c
        refine lv_iconst (v := 0) hx hb dX7_isBehind_37 (by decide) ?_
        exact S_iret hC hr hk (by rfl) hv dX7_isBehind_38
      · have hv := hv.2 c
        refine lv_iconst (v := 1) hx hb dX7_isBehind_33 (by decide) ?_
        refine lv_goto (tgt := 38) hx hb dX7_isBehind_34 (by decide) ?_
        exact S_iret hC hr hk (by rfl) hv dX7_isBehind_38
def V_X7_thrown  (g : St) (post : Int32 → St → Prop) : Prop := post (g.2 0) g
abbrev rm_X7_thrown : Room := { frames := 0, cells := 0, slots := 0, locals := 0 }
set_option maxHeartbeats 4000000 in
set_option maxRecDepth 100000 in
theorem c_X7_thrown (l : Launch) (D : va_G) (cs az a : Nat → Nat)  (g : St) (post : Int32 → St → Prop) (hv : V_X7_thrown  g post) : uMi l yX7_thrown wsX7_thrown rm_X7_thrown D cs az (mW cs a) [.ref (a 0)] g post := by
  refine u_ofI (cc := cX7_thrown) (maxL := 1) (by decide) rfl (Nat.le_of_ble_eq_true rfl) ?_
  intro p e s m args below meth c F ls hC hr hk hl hE
  have hx := hC.1.1; have hb := hC.1.2.1; have hml := hC.1.2.2.1; have hts := hC.1.2.2.2.2
  have hown : s.vm.findClass RX7 = some m.cls := hC.1.2.2.2.1
  have hl : lv_has ls 1 [(0, .ref (a 0))] := hl
  unfold V_X7_thrown at hv
  refine lv_aload_n hx hb dX7_thrown_0 rfl (lv_at hl 0 rfl) ?_
  refine G_get (v := .int (g.2 0)) hC hE (fun _ h => List.mem_cons_of_mem _ (List.mem_append_right _ h)) f_model rfl 15 (by decide) (hts (.fieldLink RX7 57 "SeedBattleModel" "thrown" "I") (List.mem_of_getElem? (i := 1) rfl)) rfl dX7_thrown_1 ?_
  exact G_iret hC hr hk hE hv dX7_thrown_4
def J_X7_no_10 (x1 : Int32) (x2 : Int32) (post : Int32 → St → Prop)  (v1 : Int32) (t0 : Int32) (g : St) : Prop := ((¬ v1 = 0 → post 0 (sS g 0 t0)) ∧ (v1 = 0 → post 1 (sS g 0 t0)))
def V_X7_no (x1 : Int32) (x2 : Int32) (g : St) (post : Int32 → St → Prop) : Prop := ((x1 = 0 → J_X7_no_10 x1 x2 post x1 x2 g) ∧ (¬ x1 = 0 → J_X7_no_10 x1 x2 post x1 0 g))
abbrev rm_X7_no : Room := { frames := 0, cells := 0, slots := 0, locals := 0 }
set_option maxHeartbeats 4000000 in
set_option maxRecDepth 100000 in
theorem c_X7_no (l : Launch) (D : va_G) (cs az a : Nat → Nat) (x1 : Int32) (x2 : Int32) (g : St) (post : Int32 → St → Prop) (hv : V_X7_no x1 x2 g post) : uMi l yX7_no wsX7_no rm_X7_no D cs az (mW cs a) [.ref (a 0), .int x1, .int x2] g post := by
  refine u_ofI (cc := cX7_no) (maxL := 3) (by decide) rfl (Nat.le_of_ble_eq_true rfl) ?_
  intro p e s m args below meth c F ls hC hr hk hl hE
  have hx := hC.1.1; have hb := hC.1.2.1; have hml := hC.1.2.2.1; have hts := hC.1.2.2.2.2
  have hown : s.vm.findClass RX7 = some m.cls := hC.1.2.2.2.1
  have hl : lv_has ls 3 [(0, .ref (a 0)), (1, .int x1), (2, .int x2)] := hl
  unfold V_X7_no at hv
  have j_10 : ∀ (v1 : Int32) (t0 : Int32) (g : St), J_X7_no_10 x1 x2 post v1 t0 g → ∀ (H : Heap) (locs : List Loc) (ls : Array Slot), uE D 16 mA (mO a) cs a F s g H locs → lv_has ls 3 [(1, .int v1)] → W p l e rm_X7_no s m args below meth c H locs 0 0 (MQ below (va_Qi post (uB D (uW 16 mA (mO a) cs a)) F) args s 0 0 F) (F0 m 10 ls [.int t0, .ref (a 0)]) := by
    intro  v1 t0 g  hv
    intro H locs ls hE hl
    unfold J_X7_no_10 at hv
    refine G_put (v := t0) (ty := .int) hC hE (fun _ h => List.mem_cons_of_mem _ (List.mem_append_right _ h)) tyX7 tyX7_ok nmX7 f_model rfl 15 0 (by decide) (hts (.fieldLink RX7 57 "SeedBattleModel" "thrown" "I") (List.mem_of_getElem? (i := 1) rfl)) rfl (by decide +kernel) rfl rfl (Nat.le_of_ble_eq_true rfl) (p_model_thrown_e) (p_model_thrown_o) dX7_no_10 (fun H locs hE => ?_)
    refine lv_iload_n hx hb dX7_no_13 rfl (lv_at hl 0 rfl) ?_
    refine lv_if_ne (tgt := 21) hx hb dX7_no_14 (by decide) (fun c => ?_) (fun c => ?_)
    · have hv := hv.1 c
      refine lv_iconst (v := 0) hx hb dX7_no_21 (by decide) ?_
      exact G_zret hC hr hk hE rfl hv dX7_no_22
    · have hv := hv.2 c
      refine lv_iconst (v := 1) hx hb dX7_no_17 (by decide) ?_
      refine lv_goto (tgt := 22) hx hb dX7_no_18 (by decide) ?_
      exact G_zret hC hr hk hE rfl hv dX7_no_22
  refine lv_aload_n hx hb dX7_no_0 rfl (lv_at hl 0 rfl) ?_
  refine lv_iload_n hx hb dX7_no_1 rfl (lv_at hl 1 rfl) ?_
  refine lv_if_eq (tgt := 9) hx hb dX7_no_2 (by decide) (fun c => ?_) (fun c => ?_)
  · have hv := hv.1 c
    refine lv_iload_n hx hb dX7_no_9 rfl (lv_at hl 2 rfl) ?_
    exact j_10  _ _ _  hv _ _ _ hE (lv_sub hl [1] rfl)
  · have hv := hv.2 c
    refine lv_iconst (v := 0) hx hb dX7_no_5 (by decide) ?_
    refine lv_goto (tgt := 10) hx hb dX7_no_6 (by decide) ?_
    exact j_10  _ _ _  hv _ _ _ hE (lv_sub hl [1] rfl)
def J_X7_noPlayer_15 (x1 : Int32) (post : Int32 → St → Prop)  (t0 : Int32) (g : St) : Prop := V_X7_no t0 1 g (fun r2 g1 => (narrow .boolean (.int r2) = .int r2) ∧ post r2 g1)
def J_X7_noPlayer_14 (x1 : Int32) (post : Int32 → St → Prop)   (g : St) : Prop := J_X7_noPlayer_15 x1 post 0 g
def V_X7_noPlayer (x1 : Int32) (g : St) (post : Int32 → St → Prop) : Prop := ((x1 < 0 → J_X7_noPlayer_14 x1 post g) ∧ (¬ x1 < 0 → ((4 ≤ x1 → J_X7_noPlayer_14 x1 post g) ∧ (¬ 4 ≤ x1 → J_X7_noPlayer_15 x1 post 1 g))))
abbrev rm_X7_noPlayer : Room := { frames := 1, cells := 0, slots := 0, locals := 22 }
set_option maxHeartbeats 4000000 in
set_option maxRecDepth 100000 in
theorem c_X7_noPlayer (l : Launch) (D : va_G) (cs az a : Nat → Nat) (x1 : Int32) (g : St) (post : Int32 → St → Prop) (hv : V_X7_noPlayer x1 g post) : uMi l yX7_noPlayer wsX7_noPlayer rm_X7_noPlayer D cs az (mW cs a) [.ref (a 0), .int x1] g post := by
  refine u_ofI (cc := cX7_noPlayer) (maxL := 2) (by decide) rfl (Nat.le_of_ble_eq_true rfl) ?_
  intro p e s m args below meth c F ls hC hr hk hl hE
  have hx := hC.1.1; have hb := hC.1.2.1; have hml := hC.1.2.2.1; have hts := hC.1.2.2.2.2
  have hown : s.vm.findClass RX7 = some m.cls := hC.1.2.2.2.1
  have hl : lv_has ls 2 [(0, .ref (a 0)), (1, .int x1)] := hl
  unfold V_X7_noPlayer at hv
  have j_15 : ∀ (t0 : Int32) (g : St), J_X7_noPlayer_15 x1 post t0 g → ∀ (H : Heap) (locs : List Loc) (ls : Array Slot), uE D 16 mA (mO a) cs a F s g H locs → lv_has ls 2 [] → W p l e rm_X7_noPlayer s m args below meth c H locs 0 0 (MQ below (va_Qi post (uB D (uW 16 mA (mO a) cs a)) F) args s 0 0 F) (F0 m 15 ls [.int t0, .ref (a 0)]) := by
    intro  t0 g  hv
    intro H locs ls hE hl
    unfold J_X7_noPlayer_15 at hv
    refine lv_iconst (v := 1) hx hb dX7_noPlayer_15 (by decide) ?_
    refine G_callVi hC (c_X7_no l D cs az a t0 1 g _ hv) (cwV 2 hts gX7_noPlayer_X7_no rfl rfl rfl (by decide +kernel) ⟨Nat.le_of_ble_eq_true rfl, Nat.le_of_ble_eq_true rfl⟩) f_model rfl rfl hl rfl (Nat.le_of_ble_eq_true rfl) dX7_noPlayer_16 hE (fun r2 g1 H locs hv hE => ?_)
    exact G_zret hC hr hk hE hv.1 hv.2 dX7_noPlayer_19
  have j_14 : ∀  (g : St), J_X7_noPlayer_14 x1 post g → ∀ (H : Heap) (locs : List Loc) (ls : Array Slot), uE D 16 mA (mO a) cs a F s g H locs → lv_has ls 2 [] → W p l e rm_X7_noPlayer s m args below meth c H locs 0 0 (MQ below (va_Qi post (uB D (uW 16 mA (mO a) cs a)) F) args s 0 0 F) (F0 m 14 ls [.ref (a 0)]) := by
    intro  g  hv
    intro H locs ls hE hl
    unfold J_X7_noPlayer_14 at hv
    refine lv_iconst (v := 0) hx hb dX7_noPlayer_14 (by decide) ?_
    exact j_15  _ _  hv _ _ _ hE (lv_sub hl [] rfl)
  refine lv_aload_n hx hb dX7_noPlayer_0 rfl (lv_at hl 0 rfl) ?_
  refine lv_iload_n hx hb dX7_noPlayer_1 rfl (lv_at hl 1 rfl) ?_
  refine lv_if_lt (tgt := 14) hx hb dX7_noPlayer_2 (by decide) (fun c => ?_) (fun c => ?_)
  · have hv := hv.1 c
    exact j_14  _  hv _ _ _ hE (lv_sub hl [] rfl)
  · have hv := hv.2 c
    refine lv_iload_n hx hb dX7_noPlayer_5 rfl (lv_at hl 1 rfl) ?_
    refine lv_iconst (v := 4) hx hb dX7_noPlayer_6 (by decide) ?_
    refine lv_icmp_ge (tgt := 14) hx hb dX7_noPlayer_7 (by decide) (fun c => ?_) (fun c => ?_)
    · have hv := hv.1 c
      exact j_14  _  hv _ _ _ hE (lv_sub hl [] rfl)
    · have hv := hv.2 c
      refine lv_iconst (v := 1) hx hb dX7_noPlayer_10 (by decide) ?_
      refine lv_goto (tgt := 15) hx hb dX7_noPlayer_11 (by decide) ?_
      exact j_15  _ _  hv _ _ _ hE (lv_sub hl [] rfl)
def J_X7_noUnit_18 (x1 : Int32) (post : Int32 → St → Prop)  (t0 : Int32) (g : St) : Prop := V_X7_no t0 1 g (fun r2 g1 => (narrow .boolean (.int r2) = .int r2) ∧ post r2 g1)
def J_X7_noUnit_17 (x1 : Int32) (post : Int32 → St → Prop)   (g : St) : Prop := J_X7_noUnit_18 x1 post 0 g
def V_X7_noUnit (x1 : Int32) (g : St) (post : Int32 → St → Prop) : Prop := ((x1 < 0 → J_X7_noUnit_17 x1 post g) ∧ (¬ x1 < 0 → (((g.2 2) ≤ x1 → J_X7_noUnit_17 x1 post g) ∧ (¬ (g.2 2) ≤ x1 → J_X7_noUnit_18 x1 post 1 g))))
abbrev rm_X7_noUnit : Room := { frames := 1, cells := 0, slots := 0, locals := 22 }
set_option maxHeartbeats 4000000 in
set_option maxRecDepth 100000 in
theorem c_X7_noUnit (l : Launch) (D : va_G) (cs az a : Nat → Nat) (x1 : Int32) (g : St) (post : Int32 → St → Prop) (hv : V_X7_noUnit x1 g post) : uMi l yX7_noUnit wsX7_noUnit rm_X7_noUnit D cs az (mW cs a) [.ref (a 0), .int x1] g post := by
  refine u_ofI (cc := cX7_noUnit) (maxL := 2) (by decide) rfl (Nat.le_of_ble_eq_true rfl) ?_
  intro p e s m args below meth c F ls hC hr hk hl hE
  have hx := hC.1.1; have hb := hC.1.2.1; have hml := hC.1.2.2.1; have hts := hC.1.2.2.2.2
  have hown : s.vm.findClass RX7 = some m.cls := hC.1.2.2.2.1
  have hl : lv_has ls 2 [(0, .ref (a 0)), (1, .int x1)] := hl
  unfold V_X7_noUnit at hv
  have j_18 : ∀ (t0 : Int32) (g : St), J_X7_noUnit_18 x1 post t0 g → ∀ (H : Heap) (locs : List Loc) (ls : Array Slot), uE D 16 mA (mO a) cs a F s g H locs → lv_has ls 2 [] → W p l e rm_X7_noUnit s m args below meth c H locs 0 0 (MQ below (va_Qi post (uB D (uW 16 mA (mO a) cs a)) F) args s 0 0 F) (F0 m 18 ls [.int t0, .ref (a 0)]) := by
    intro  t0 g  hv
    intro H locs ls hE hl
    unfold J_X7_noUnit_18 at hv
    refine lv_iconst (v := 1) hx hb dX7_noUnit_18 (by decide) ?_
    refine G_callVi hC (c_X7_no l D cs az a t0 1 g _ hv) (cwV 2 hts gX7_noUnit_X7_no rfl rfl rfl (by decide +kernel) ⟨Nat.le_of_ble_eq_true rfl, Nat.le_of_ble_eq_true rfl⟩) f_model rfl rfl hl rfl (Nat.le_of_ble_eq_true rfl) dX7_noUnit_19 hE (fun r2 g1 H locs hv hE => ?_)
    exact G_zret hC hr hk hE hv.1 hv.2 dX7_noUnit_22
  have j_17 : ∀  (g : St), J_X7_noUnit_17 x1 post g → ∀ (H : Heap) (locs : List Loc) (ls : Array Slot), uE D 16 mA (mO a) cs a F s g H locs → lv_has ls 2 [] → W p l e rm_X7_noUnit s m args below meth c H locs 0 0 (MQ below (va_Qi post (uB D (uW 16 mA (mO a) cs a)) F) args s 0 0 F) (F0 m 17 ls [.ref (a 0)]) := by
    intro  g  hv
    intro H locs ls hE hl
    unfold J_X7_noUnit_17 at hv
    refine lv_iconst (v := 0) hx hb dX7_noUnit_17 (by decide) ?_
    exact j_18  _ _  hv _ _ _ hE (lv_sub hl [] rfl)
  refine lv_aload_n hx hb dX7_noUnit_0 rfl (lv_at hl 0 rfl) ?_
  refine lv_iload_n hx hb dX7_noUnit_1 rfl (lv_at hl 1 rfl) ?_
  refine lv_if_lt (tgt := 17) hx hb dX7_noUnit_2 (by decide) (fun c => ?_) (fun c => ?_)
  · have hv := hv.1 c
    exact j_17  _  hv _ _ _ hE (lv_sub hl [] rfl)
  · have hv := hv.2 c
    refine lv_iload_n hx hb dX7_noUnit_5 rfl (lv_at hl 1 rfl) ?_
    refine lv_aload_n hx hb dX7_noUnit_6 rfl (lv_at hl 0 rfl) ?_
    refine G_get (v := .int (g.2 2)) hC hE (fun _ h => List.mem_cons_of_mem _ (List.mem_append_right _ h)) f_model rfl 17 (by decide) (hts (.fieldLink RX7 65 "SeedBattleModel" "units" "I") (List.mem_of_getElem? (i := 1) rfl)) rfl dX7_noUnit_7 ?_
    refine lv_icmp_ge (tgt := 17) hx hb dX7_noUnit_10 (by decide) (fun c => ?_) (fun c => ?_)
    · have hv := hv.1 c
      exact j_17  _  hv _ _ _ hE (lv_sub hl [] rfl)
    · have hv := hv.2 c
      refine lv_iconst (v := 1) hx hb dX7_noUnit_13 (by decide) ?_
      refine lv_goto (tgt := 18) hx hb dX7_noUnit_14 (by decide) ?_
      exact j_18  _ _  hv _ _ _ hE (lv_sub hl [] rfl)
def J_X7_setSeed_13 (x1 : Int32) (post : Int32 → St → Prop)  (v1 : Int32) (t0 : Int32) (g : St) : Prop := V_X7_no t0 1 g (fun r2 g1 => ((r2 = 0 → post (g1.2 1) (sS g1 1 v1)) ∧ (¬ r2 = 0 → post 0 g1)))
def V_X7_setSeed (x1 : Int32) (g : St) (post : Int32 → St → Prop) : Prop := ((¬ (g.2 2) = 0 → J_X7_setSeed_13 x1 post x1 0 g) ∧ ((g.2 2) = 0 → J_X7_setSeed_13 x1 post x1 1 g))
abbrev rm_X7_setSeed : Room := { frames := 1, cells := 0, slots := 0, locals := 22 }
set_option maxHeartbeats 4000000 in
set_option maxRecDepth 100000 in
theorem c_X7_setSeed (l : Launch) (D : va_G) (cs az a : Nat → Nat) (x1 : Int32) (g : St) (post : Int32 → St → Prop) (hv : V_X7_setSeed x1 g post) : uMi l yX7_setSeed wsX7_setSeed rm_X7_setSeed D cs az (mW cs a) [.ref (a 0), .int x1] g post := by
  refine u_ofI (cc := cX7_setSeed) (maxL := 3) (by decide) rfl (Nat.le_of_ble_eq_true rfl) ?_
  intro p e s m args below meth c F ls hC hr hk hl hE
  have hx := hC.1.1; have hb := hC.1.2.1; have hml := hC.1.2.2.1; have hts := hC.1.2.2.2.2
  have hown : s.vm.findClass RX7 = some m.cls := hC.1.2.2.2.1
  have hl : lv_has ls 3 [(0, .ref (a 0)), (1, .int x1)] := hl
  unfold V_X7_setSeed at hv
  have j_13 : ∀ (v1 : Int32) (t0 : Int32) (g : St), J_X7_setSeed_13 x1 post v1 t0 g → ∀ (H : Heap) (locs : List Loc) (ls : Array Slot), uE D 16 mA (mO a) cs a F s g H locs → lv_has ls 3 [(0, .ref (a 0)), (1, .int v1)] → W p l e rm_X7_setSeed s m args below meth c H locs 0 0 (MQ below (va_Qi post (uB D (uW 16 mA (mO a) cs a)) F) args s 0 0 F) (F0 m 13 ls [.int t0, .ref (a 0)]) := by
    intro  v1 t0 g  hv
    intro H locs ls hE hl
    unfold J_X7_setSeed_13 at hv
    refine lv_iconst (v := 1) hx hb dX7_setSeed_13 (by decide) ?_
    refine G_callVi hC (c_X7_no l D cs az a t0 1 g _ hv) (cwV 2 hts gX7_setSeed_X7_no rfl rfl rfl (by decide +kernel) ⟨Nat.le_of_ble_eq_true rfl, Nat.le_of_ble_eq_true rfl⟩) f_model rfl rfl hl rfl (Nat.le_of_ble_eq_true rfl) dX7_setSeed_14 hE (fun r2 g1 H locs hv hE => ?_)
    refine lv_if_eq (tgt := 22) hx hb dX7_setSeed_17 (by decide) (fun c => ?_) (fun c => ?_)
    · have hv := hv.1 c
      refine lv_aload_n hx hb dX7_setSeed_22 rfl (lv_at hl 0 rfl) ?_
      refine G_get (v := .int (g1.2 1)) hC hE (fun _ h => List.mem_cons_of_mem _ (List.mem_append_right _ h)) f_model rfl 16 (by decide) (hts (.fieldLink RX7 68 "SeedBattleModel" "seed" "I") (List.mem_of_getElem? (i := 2) rfl)) rfl dX7_setSeed_23 ?_
      refine lv_istore_n (lv' := [(2, .int (g1.2 1)), (0, .ref (a 0)), (1, .int v1)]) hx hb dX7_setSeed_26 rfl hl (by decide) rfl (fun ls hl => ?_)
      refine lv_aload_n hx hb dX7_setSeed_27 rfl (lv_at hl 1 rfl) ?_
      refine lv_iload_n hx hb dX7_setSeed_28 rfl (lv_at hl 2 rfl) ?_
      refine G_put (v := v1) (ty := .int) hC hE (fun _ h => List.mem_cons_of_mem _ (List.mem_append_right _ h)) tyX7 tyX7_ok nmX7 f_model rfl 16 1 (by decide) (hts (.fieldLink RX7 68 "SeedBattleModel" "seed" "I") (List.mem_of_getElem? (i := 2) rfl)) rfl (by decide +kernel) rfl rfl (Nat.le_of_ble_eq_true rfl) (p_model_seed_e) (p_model_seed_o) dX7_setSeed_29 (fun H locs hE => ?_)
      refine lv_iload_n hx hb dX7_setSeed_32 rfl (lv_at hl 0 rfl) ?_
      exact G_iret hC hr hk hE hv dX7_setSeed_33
    · have hv := hv.2 c
      refine lv_iconst (v := 0) hx hb dX7_setSeed_20 (by decide) ?_
      exact G_iret hC hr hk hE hv dX7_setSeed_21
  refine lv_aload_n hx hb dX7_setSeed_0 rfl (lv_at hl 0 rfl) ?_
  refine lv_aload_n hx hb dX7_setSeed_1 rfl (lv_at hl 0 rfl) ?_
  refine G_get (v := .int (g.2 2)) hC hE (fun _ h => List.mem_cons_of_mem _ (List.mem_append_right _ h)) f_model rfl 17 (by decide) (hts (.fieldLink RX7 65 "SeedBattleModel" "units" "I") (List.mem_of_getElem? (i := 1) rfl)) rfl dX7_setSeed_2 ?_
  refine lv_if_ne (tgt := 12) hx hb dX7_setSeed_5 (by decide) (fun c => ?_) (fun c => ?_)
  · have hv := hv.1 c
    refine lv_iconst (v := 0) hx hb dX7_setSeed_12 (by decide) ?_
    exact j_13  _ _ _  hv _ _ _ hE (lv_sub hl [0, 1] rfl)
  · have hv := hv.2 c
    refine lv_iconst (v := 1) hx hb dX7_setSeed_8 (by decide) ?_
    refine lv_goto (tgt := 13) hx hb dX7_setSeed_9 (by decide) ?_
    exact j_13  _ _ _  hv _ _ _ hE (lv_sub hl [0, 1] rfl)
def J_X7_groundOf_7 (x1 : Int32) (post : Int32 → St → Prop) (K7 : (Int32 × Int32 × Int32 × St) → Prop) (v1 : Int32) (v2 : Int32) (v3 : Int32) (g : St) : Prop := ((v1 < v3 → ((4 ≤ (((Int32.toUInt32 v2 >>> (Int32.toUInt32 16 &&& Int32.toUInt32 31)).toInt32) - ((Int32.toUInt32 v2 >>> (Int32.toUInt32 16 &&& Int32.toUInt32 31)).toInt32) / 8 * 8) → ((6 ≤ (((Int32.toUInt32 v2 >>> (Int32.toUInt32 16 &&& Int32.toUInt32 31)).toInt32) - ((Int32.toUInt32 v2 >>> (Int32.toUInt32 16 &&& Int32.toUInt32 31)).toInt32) / 8 * 8) → ((¬ (((Int32.toUInt32 v2 >>> (Int32.toUInt32 16 &&& Int32.toUInt32 31)).toInt32) - ((Int32.toUInt32 v2 >>> (Int32.toUInt32 16 &&& Int32.toUInt32 31)).toInt32) / 8 * 8) = 6 → post 120 g) ∧ ((((Int32.toUInt32 v2 >>> (Int32.toUInt32 16 &&& Int32.toUInt32 31)).toInt32) - ((Int32.toUInt32 v2 >>> (Int32.toUInt32 16 &&& Int32.toUInt32 31)).toInt32) / 8 * 8) = 6 → post 104 g))) ∧ (¬ 6 ≤ (((Int32.toUInt32 v2 >>> (Int32.toUInt32 16 &&& Int32.toUInt32 31)).toInt32) - ((Int32.toUInt32 v2 >>> (Int32.toUInt32 16 &&& Int32.toUInt32 31)).toInt32) / 8 * 8) → post 119 g))) ∧ (¬ 4 ≤ (((Int32.toUInt32 v2 >>> (Int32.toUInt32 16 &&& Int32.toUInt32 31)).toInt32) - ((Int32.toUInt32 v2 >>> (Int32.toUInt32 16 &&& Int32.toUInt32 31)).toInt32) / 8 * 8) → post 112 g))) ∧ (¬ v1 < v3 → K7 (v1, ((v2 * 1103515245) + 12345), (v3 + 1), g)))
def V_X7_groundOf (x1 : Int32) (g : St) (post : Int32 → St → Prop) : Prop := lpP (fun K7 (z : Int32 × Int32 × Int32 × St) => J_X7_groundOf_7 x1 post K7 z.1 z.2.1 z.2.2.1 z.2.2.2) (x1, (g.2 1), 0, g)
abbrev rm_X7_groundOf : Room := { frames := 0, cells := 0, slots := 0, locals := 0 }
set_option maxHeartbeats 4000000 in
set_option maxRecDepth 100000 in
theorem c_X7_groundOf (l : Launch) (D : va_G) (cs az a : Nat → Nat) (x1 : Int32) (g : St) (post : Int32 → St → Prop) (hv : V_X7_groundOf x1 g post) : uMi l yX7_groundOf wsX7_groundOf rm_X7_groundOf D cs az (mW cs a) [.ref (a 0), .int x1] g post := by
  refine u_ofI (cc := cX7_groundOf) (maxL := 4) (by decide) rfl (Nat.le_of_ble_eq_true rfl) ?_
  intro p e s m args below meth c F ls hC hr hk hl hE
  have hx := hC.1.1; have hb := hC.1.2.1; have hml := hC.1.2.2.1; have hts := hC.1.2.2.2.2
  have hown : s.vm.findClass RX7 = some m.cls := hC.1.2.2.2.1
  have hl : lv_has ls 4 [(0, .ref (a 0)), (1, .int x1)] := hl
  unfold V_X7_groundOf at hv
  have j_7 : ∀ (v1 : Int32) (v2 : Int32) (v3 : Int32) (g : St), lpP (fun K7 (z : Int32 × Int32 × Int32 × St) => J_X7_groundOf_7 x1 post K7 z.1 z.2.1 z.2.2.1 z.2.2.2) (v1, v2, v3, g) → ∀ (H : Heap) (locs : List Loc) (ls : Array Slot), uE D 16 mA (mO a) cs a F s g H locs → lv_has ls 4 [(1, .int v1), (2, .int v2), (3, .int v3)] → W p l e rm_X7_groundOf s m args below meth c H locs 0 0 (MQ below (va_Qi post (uB D (uW 16 mA (mO a) cs a)) F) args s 0 0 F) (F0 m 7 ls []) := by
    intro  v1 v2 v3 g  hv
    obtain ⟨nn, hv⟩ := hv
    induction nn generalizing v1 v2 v3 g with
    | zero => exact False.elim hv
    | succ nn hK7 =>
      intro H locs ls hE hl
      have hv : J_X7_groundOf_7 x1 post (itP _ nn) v1 v2 v3 g := hv
      unfold J_X7_groundOf_7 at hv
      refine lv_iload_n hx hb dX7_groundOf_7 rfl (lv_at hl 2 rfl) ?_
      refine lv_iload_n hx hb dX7_groundOf_8 rfl (lv_at hl 0 rfl) ?_
      refine lv_icmp_gt (tgt := 27) hx hb dX7_groundOf_9 (by decide) (fun c => ?_) (fun c => ?_)
      · have hv := hv.1 c
        refine lv_iload_n hx hb dX7_groundOf_27 rfl (lv_at hl 1 rfl) ?_
        refine lv_bipush (v := 16) hx hb dX7_groundOf_28 (by decide) ?_
        refine lv_iushr (v := (Int32.toUInt32 v2 >>> (Int32.toUInt32 16 &&& Int32.toUInt32 31)).toInt32) hx hb dX7_groundOf_30 rfl ?_
        refine lv_bipush (v := 8) hx hb dX7_groundOf_31 (by decide) ?_
        refine lv_irem hx hb dX7_groundOf_33 (by decide) ?_
        refine lv_istore_n (lv' := [(3, .int (((Int32.toUInt32 v2 >>> (Int32.toUInt32 16 &&& Int32.toUInt32 31)).toInt32) - ((Int32.toUInt32 v2 >>> (Int32.toUInt32 16 &&& Int32.toUInt32 31)).toInt32) / 8 * 8)), (1, .int v1), (2, .int v2)]) hx hb dX7_groundOf_34 rfl hl (by decide) rfl (fun ls hl => ?_)
        refine lv_iload_n hx hb dX7_groundOf_35 rfl (lv_at hl 0 rfl) ?_
        refine lv_iconst (v := 4) hx hb dX7_groundOf_36 (by decide) ?_
        refine lv_icmp_ge (tgt := 45) hx hb dX7_groundOf_37 (by decide) (fun c => ?_) (fun c => ?_)
        · have hv := hv.1 c
          refine lv_iload_n hx hb dX7_groundOf_45 rfl (lv_at hl 0 rfl) ?_
          refine lv_bipush (v := 6) hx hb dX7_groundOf_46 (by decide) ?_
          refine lv_icmp_ge (tgt := 56) hx hb dX7_groundOf_48 (by decide) (fun c => ?_) (fun c => ?_)
          · have hv := hv.1 c
            refine lv_iload_n hx hb dX7_groundOf_56 rfl (lv_at hl 0 rfl) ?_
            refine lv_bipush (v := 6) hx hb dX7_groundOf_57 (by decide) ?_
            refine lv_icmp_ne (tgt := 67) hx hb dX7_groundOf_59 (by decide) (fun c => ?_) (fun c => ?_)
            · have hv := hv.1 c
              refine lv_bipush (v := 120) hx hb dX7_groundOf_67 (by decide) ?_
              exact G_zret hC hr hk hE rfl hv dX7_groundOf_69
            · have hv := hv.2 c
              refine lv_bipush (v := 104) hx hb dX7_groundOf_62 (by decide) ?_
              refine lv_goto (tgt := 69) hx hb dX7_groundOf_64 (by decide) ?_
              exact G_zret hC hr hk hE rfl hv dX7_groundOf_69
          · have hv := hv.2 c
            refine lv_bipush (v := 119) hx hb dX7_groundOf_51 (by decide) ?_
            refine lv_goto (tgt := 69) hx hb dX7_groundOf_53 (by decide) ?_
            exact G_zret hC hr hk hE rfl hv dX7_groundOf_69
        · have hv := hv.2 c
          refine lv_bipush (v := 112) hx hb dX7_groundOf_40 (by decide) ?_
          refine lv_goto (tgt := 69) hx hb dX7_groundOf_42 (by decide) ?_
          exact G_zret hC hr hk hE rfl hv dX7_groundOf_69
      · have hv := hv.2 c
        refine lv_iload_n hx hb dX7_groundOf_12 rfl (lv_at hl 1 rfl) ?_
        refine lv_ldc (v := 1103515245) hx hb hown (hts (.constant RX7 71 (1103515245)) (List.mem_of_getElem? (i := 2) rfl)) dX7_groundOf_13 ?_
        refine lv_imul hx hb dX7_groundOf_15 ?_
        refine lv_sipush (v := 12345) hx hb dX7_groundOf_16 (by decide) ?_
        refine lv_iadd hx hb dX7_groundOf_19 ?_
        refine lv_istore_n (lv' := [(2, .int ((v2 * 1103515245) + 12345)), (1, .int v1), (3, .int v3)]) hx hb dX7_groundOf_20 rfl hl (by decide) rfl (fun ls hl => ?_)
        refine lv_iinc (v := (v3 + 1)) (lv' := [(3, .int (v3 + 1)), (2, .int ((v2 * 1103515245) + 12345)), (1, .int v1)]) hx hb dX7_groundOf_21 hl (k := 2) rfl rfl (by decide) rfl (fun ls hl => ?_)
        refine lv_goto (tgt := 7) hx hb dX7_groundOf_24 (by decide) ?_
        exact hK7 _ _ _ _  hv _ _ _ hE (lv_sub hl [2, 1, 0] rfl)
  refine lv_aload_n hx hb dX7_groundOf_0 rfl (lv_at hl 0 rfl) ?_
  refine G_get (v := .int (g.2 1)) hC hE (fun _ h => List.mem_cons_of_mem _ (List.mem_append_right _ h)) f_model rfl 16 (by decide) (hts (.fieldLink RX7 68 "SeedBattleModel" "seed" "I") (List.mem_of_getElem? (i := 1) rfl)) rfl dX7_groundOf_1 ?_
  refine lv_istore_n (lv' := [(2, .int (g.2 1)), (0, .ref (a 0)), (1, .int x1)]) hx hb dX7_groundOf_4 rfl hl (by decide) rfl (fun ls hl => ?_)
  refine lv_iconst (v := 0) hx hb dX7_groundOf_5 (by decide) ?_
  refine lv_istore_n (lv' := [(3, .int 0), (2, .int (g.2 1)), (0, .ref (a 0)), (1, .int x1)]) hx hb dX7_groundOf_6 rfl hl (by decide) rfl (fun ls hl => ?_)
  exact j_7  _ _ _ _  hv _ _ _ hE (lv_sub hl [3, 1, 0] rfl)
def V_X7_ground (x1 : Int32) (g : St) (post : Int32 → St → Prop) : Prop := V_X7_isCell x1 (fun r1 => V_X7_no r1 1 g (fun r3 g2 => ((r3 = 0 → V_X7_groundOf x1 g2 (fun r5 g4 => (narrow .char (.int r5) = .int r5) ∧ post r5 g4)) ∧ (¬ r3 = 0 → post 112 g2))))
abbrev rm_X7_ground : Room := { frames := 1, cells := 0, slots := 0, locals := 23 }
set_option maxHeartbeats 4000000 in
set_option maxRecDepth 100000 in
theorem c_X7_ground (l : Launch) (D : va_G) (cs az a : Nat → Nat) (x1 : Int32) (g : St) (post : Int32 → St → Prop) (hv : V_X7_ground x1 g post) : uMi l yX7_ground wsX7_ground rm_X7_ground D cs az (mW cs a) [.ref (a 0), .int x1] g post := by
  refine u_ofI (cc := cX7_ground) (maxL := 2) (by decide) rfl (Nat.le_of_ble_eq_true rfl) ?_
  intro p e s m args below meth c F ls hC hr hk hl hE
  have hx := hC.1.1; have hb := hC.1.2.1; have hml := hC.1.2.2.1; have hts := hC.1.2.2.2.2
  have hown : s.vm.findClass RX7 = some m.cls := hC.1.2.2.2.1
  have hl : lv_has ls 2 [(0, .ref (a 0)), (1, .int x1)] := hl
  unfold V_X7_ground at hv
  refine lv_aload_n hx hb dX7_ground_0 rfl (lv_at hl 0 rfl) ?_
  refine lv_iload_n hx hb dX7_ground_1 rfl (lv_at hl 1 rfl) ?_
  refine G_callSs hC.1 hC.2.2.2.2.1 (c_X7_isCell l x1 _ hv) (va_cwS 1 hts gX7_ground_X7_isCell rfl rfl rfl (by decide +kernel) ⟨Nat.le_of_ble_eq_true rfl, Nat.le_of_ble_eq_true rfl⟩) rfl hl rfl (Nat.le_of_ble_eq_true rfl) dX7_ground_2 (Nat.zero_le _) (Nat.zero_le _) (fun r1 hv => ?_)
  refine lv_iconst (v := 1) hx hb dX7_ground_5 (by decide) ?_
  refine G_callVi hC (c_X7_no l D cs az a r1 1 g _ hv) (cwV 2 hts gX7_ground_X7_no rfl rfl rfl (by decide +kernel) ⟨Nat.le_of_ble_eq_true rfl, Nat.le_of_ble_eq_true rfl⟩) f_model rfl rfl hl rfl (Nat.le_of_ble_eq_true rfl) dX7_ground_6 hE (fun r3 g2 H locs hv hE => ?_)
  refine lv_if_eq (tgt := 17) hx hb dX7_ground_9 (by decide) (fun c => ?_) (fun c => ?_)
  · have hv := hv.1 c
    refine lv_aload_n hx hb dX7_ground_17 rfl (lv_at hl 0 rfl) ?_
    refine lv_iload_n hx hb dX7_ground_18 rfl (lv_at hl 1 rfl) ?_
    refine G_callVi hC (c_X7_groundOf l D cs az a x1 g2 _ hv) (cwV 1 hts gX7_ground_X7_groundOf rfl rfl rfl (by decide +kernel) ⟨Nat.le_of_ble_eq_true rfl, Nat.le_of_ble_eq_true rfl⟩) f_model rfl rfl hl rfl (Nat.le_of_ble_eq_true rfl) dX7_ground_19 hE (fun r5 g4 H locs hv hE => ?_)
    exact G_zret hC hr hk hE hv.1 hv.2 dX7_ground_22
  · have hv := hv.2 c
    refine lv_bipush (v := 112) hx hb dX7_ground_12 (by decide) ?_
    refine lv_goto (tgt := 22) hx hb dX7_ground_14 (by decide) ?_
    exact G_zret hC hr hk hE rfl hv dX7_ground_22
def V_X7_steps (x1 : Int32) (g : St) (post : Int32 → St → Prop) : Prop := vp_in x1 24 ∧ (((¬ (g.1 7 (Int32.toNatClampNeg x1)) = 115 → vp_in x1 24 ∧ (((¬ (g.1 7 (Int32.toNatClampNeg x1)) = 97 → post 0 g) ∧ ((g.1 7 (Int32.toNatClampNeg x1)) = 97 → post 1 g)))) ∧ ((g.1 7 (Int32.toNatClampNeg x1)) = 115 → post 2 g)))
abbrev rm_X7_steps : Room := { frames := 0, cells := 0, slots := 0, locals := 0 }
set_option maxHeartbeats 4000000 in
set_option maxRecDepth 100000 in
theorem c_X7_steps (l : Launch) (D : va_G) (cs az a : Nat → Nat) (x1 : Int32) (g : St) (post : Int32 → St → Prop) (hv : V_X7_steps x1 g post) : uMi l yX7_steps wsX7_steps rm_X7_steps D cs az (mW cs a) [.ref (a 0), .int x1] g post := by
  refine u_ofI (cc := cX7_steps) (maxL := 2) (by decide) rfl (Nat.le_of_ble_eq_true rfl) ?_
  intro p e s m args below meth c F ls hC hr hk hl hE
  have hx := hC.1.1; have hb := hC.1.2.1; have hml := hC.1.2.2.1; have hts := hC.1.2.2.2.2
  have hown : s.vm.findClass RX7 = some m.cls := hC.1.2.2.2.1
  have hl : lv_has ls 2 [(0, .ref (a 0)), (1, .int x1)] := hl
  unfold V_X7_steps at hv
  refine lv_aload_n hx hb dX7_steps_0 rfl (lv_at hl 0 rfl) ?_
  refine G_get (v := .ref (a 7)) hC hE (fun _ h => List.mem_cons_of_mem _ (List.mem_append_left _ (List.mem_append_right _ h))) f_model rfl 6 (by decide) (hts (.fieldLink RX7 28 "SeedBattleModel" "kind" "[C") (List.mem_of_getElem? (i := 1) rfl)) rfl dX7_steps_1 ?_
  refine lv_iload_n hx hb dX7_steps_4 rfl (lv_at hl 1 rfl) ?_
  refine G_cald hC hE f_m_kind hv.1 dX7_steps_5 ?_
  have hv := hv.2
  refine lv_bipush (v := 115) hx hb dX7_steps_6 (by decide) ?_
  refine lv_icmp_ne (tgt := 15) hx hb dX7_steps_8 (by decide) (fun c => ?_) (fun c => ?_)
  · have hv := hv.1 c
    refine lv_aload_n hx hb dX7_steps_15 rfl (lv_at hl 0 rfl) ?_
    refine G_get (v := .ref (a 7)) hC hE (fun _ h => List.mem_cons_of_mem _ (List.mem_append_left _ (List.mem_append_right _ h))) f_model rfl 6 (by decide) (hts (.fieldLink RX7 28 "SeedBattleModel" "kind" "[C") (List.mem_of_getElem? (i := 1) rfl)) rfl dX7_steps_16 ?_
    refine lv_iload_n hx hb dX7_steps_19 rfl (lv_at hl 1 rfl) ?_
    refine G_cald hC hE f_m_kind hv.1 dX7_steps_20 ?_
    have hv := hv.2
    refine lv_bipush (v := 97) hx hb dX7_steps_21 (by decide) ?_
    refine lv_icmp_ne (tgt := 30) hx hb dX7_steps_23 (by decide) (fun c => ?_) (fun c => ?_)
    · have hv := hv.1 c
      refine lv_iconst (v := 0) hx hb dX7_steps_30 (by decide) ?_
      exact G_iret hC hr hk hE hv dX7_steps_31
    · have hv := hv.2 c
      refine lv_iconst (v := 1) hx hb dX7_steps_26 (by decide) ?_
      refine lv_goto (tgt := 31) hx hb dX7_steps_27 (by decide) ?_
      exact G_iret hC hr hk hE hv dX7_steps_31
  · have hv := hv.2 c
    refine lv_iconst (v := 2) hx hb dX7_steps_11 (by decide) ?_
    refine lv_goto (tgt := 31) hx hb dX7_steps_12 (by decide) ?_
    exact G_iret hC hr hk hE hv dX7_steps_31
def V_X7_power (x1 : Int32) (g : St) (post : Int32 → St → Prop) : Prop := vp_in x1 24 ∧ (((¬ (g.1 7 (Int32.toNatClampNeg x1)) = 115 → vp_in x1 24 ∧ (((¬ (g.1 7 (Int32.toNatClampNeg x1)) = 97 → post 2 g) ∧ ((g.1 7 (Int32.toNatClampNeg x1)) = 97 → post 3 g)))) ∧ ((g.1 7 (Int32.toNatClampNeg x1)) = 115 → post 1 g)))
abbrev rm_X7_power : Room := { frames := 0, cells := 0, slots := 0, locals := 0 }
set_option maxHeartbeats 4000000 in
set_option maxRecDepth 100000 in
theorem c_X7_power (l : Launch) (D : va_G) (cs az a : Nat → Nat) (x1 : Int32) (g : St) (post : Int32 → St → Prop) (hv : V_X7_power x1 g post) : uMi l yX7_power wsX7_power rm_X7_power D cs az (mW cs a) [.ref (a 0), .int x1] g post := by
  refine u_ofI (cc := cX7_power) (maxL := 2) (by decide) rfl (Nat.le_of_ble_eq_true rfl) ?_
  intro p e s m args below meth c F ls hC hr hk hl hE
  have hx := hC.1.1; have hb := hC.1.2.1; have hml := hC.1.2.2.1; have hts := hC.1.2.2.2.2
  have hown : s.vm.findClass RX7 = some m.cls := hC.1.2.2.2.1
  have hl : lv_has ls 2 [(0, .ref (a 0)), (1, .int x1)] := hl
  unfold V_X7_power at hv
  refine lv_aload_n hx hb dX7_power_0 rfl (lv_at hl 0 rfl) ?_
  refine G_get (v := .ref (a 7)) hC hE (fun _ h => List.mem_cons_of_mem _ (List.mem_append_left _ (List.mem_append_right _ h))) f_model rfl 6 (by decide) (hts (.fieldLink RX7 28 "SeedBattleModel" "kind" "[C") (List.mem_of_getElem? (i := 1) rfl)) rfl dX7_power_1 ?_
  refine lv_iload_n hx hb dX7_power_4 rfl (lv_at hl 1 rfl) ?_
  refine G_cald hC hE f_m_kind hv.1 dX7_power_5 ?_
  have hv := hv.2
  refine lv_bipush (v := 115) hx hb dX7_power_6 (by decide) ?_
  refine lv_icmp_ne (tgt := 15) hx hb dX7_power_8 (by decide) (fun c => ?_) (fun c => ?_)
  · have hv := hv.1 c
    refine lv_aload_n hx hb dX7_power_15 rfl (lv_at hl 0 rfl) ?_
    refine G_get (v := .ref (a 7)) hC hE (fun _ h => List.mem_cons_of_mem _ (List.mem_append_left _ (List.mem_append_right _ h))) f_model rfl 6 (by decide) (hts (.fieldLink RX7 28 "SeedBattleModel" "kind" "[C") (List.mem_of_getElem? (i := 1) rfl)) rfl dX7_power_16 ?_
    refine lv_iload_n hx hb dX7_power_19 rfl (lv_at hl 1 rfl) ?_
    refine G_cald hC hE f_m_kind hv.1 dX7_power_20 ?_
    have hv := hv.2
    refine lv_bipush (v := 97) hx hb dX7_power_21 (by decide) ?_
    refine lv_icmp_ne (tgt := 30) hx hb dX7_power_23 (by decide) (fun c => ?_) (fun c => ?_)
    · have hv := hv.1 c
      refine lv_iconst (v := 2) hx hb dX7_power_30 (by decide) ?_
      exact G_iret hC hr hk hE hv dX7_power_31
    · have hv := hv.2 c
      refine lv_iconst (v := 3) hx hb dX7_power_26 (by decide) ?_
      refine lv_goto (tgt := 31) hx hb dX7_power_27 (by decide) ?_
      exact G_iret hC hr hk hE hv dX7_power_31
  · have hv := hv.2 c
    refine lv_iconst (v := 1) hx hb dX7_power_11 (by decide) ?_
    refine lv_goto (tgt := 31) hx hb dX7_power_12 (by decide) ?_
    exact G_iret hC hr hk hE hv dX7_power_31
def J_X7_on_2 (x1 : Int32) (post : Int32 → St → Prop) (K2 : (Int32 × Int32 × St) → Prop) (v1 : Int32) (v2 : Int32) (g : St) : Prop := (((g.2 2) ≤ v2 → post (-1) g) ∧ (¬ (g.2 2) ≤ v2 → vp_in v2 24 ∧ (((¬ (g.1 2 (Int32.toNatClampNeg v2)) = v1 → K2 (v1, (v2 + 1), g)) ∧ ((g.1 2 (Int32.toNatClampNeg v2)) = v1 → post v2 g)))))
def V_X7_on (x1 : Int32) (g : St) (post : Int32 → St → Prop) : Prop := lpP (fun K2 (z : Int32 × Int32 × St) => J_X7_on_2 x1 post K2 z.1 z.2.1 z.2.2) (x1, 0, g)
abbrev rm_X7_on : Room := { frames := 0, cells := 0, slots := 0, locals := 0 }
set_option maxHeartbeats 4000000 in
set_option maxRecDepth 100000 in
theorem c_X7_on (l : Launch) (D : va_G) (cs az a : Nat → Nat) (x1 : Int32) (g : St) (post : Int32 → St → Prop) (hv : V_X7_on x1 g post) : uMi l yX7_on wsX7_on rm_X7_on D cs az (mW cs a) [.ref (a 0), .int x1] g post := by
  refine u_ofI (cc := cX7_on) (maxL := 3) (by decide) rfl (Nat.le_of_ble_eq_true rfl) ?_
  intro p e s m args below meth c F ls hC hr hk hl hE
  have hx := hC.1.1; have hb := hC.1.2.1; have hml := hC.1.2.2.1; have hts := hC.1.2.2.2.2
  have hown : s.vm.findClass RX7 = some m.cls := hC.1.2.2.2.1
  have hl : lv_has ls 3 [(0, .ref (a 0)), (1, .int x1)] := hl
  unfold V_X7_on at hv
  have j_2 : ∀ (v1 : Int32) (v2 : Int32) (g : St), lpP (fun K2 (z : Int32 × Int32 × St) => J_X7_on_2 x1 post K2 z.1 z.2.1 z.2.2) (v1, v2, g) → ∀ (H : Heap) (locs : List Loc) (ls : Array Slot), uE D 16 mA (mO a) cs a F s g H locs → lv_has ls 3 [(0, .ref (a 0)), (1, .int v1), (2, .int v2)] → W p l e rm_X7_on s m args below meth c H locs 0 0 (MQ below (va_Qi post (uB D (uW 16 mA (mO a) cs a)) F) args s 0 0 F) (F0 m 2 ls []) := by
    intro  v1 v2 g  hv
    obtain ⟨nn, hv⟩ := hv
    induction nn generalizing v1 v2 g with
    | zero => exact False.elim hv
    | succ nn hK2 =>
      intro H locs ls hE hl
      have hv : J_X7_on_2 x1 post (itP _ nn) v1 v2 g := hv
      unfold J_X7_on_2 at hv
      refine lv_iload_n hx hb dX7_on_2 rfl (lv_at hl 2 rfl) ?_
      refine lv_aload_n hx hb dX7_on_3 rfl (lv_at hl 0 rfl) ?_
      refine G_get (v := .int (g.2 2)) hC hE (fun _ h => List.mem_cons_of_mem _ (List.mem_append_left _ (List.mem_append_right _ h))) f_model rfl 17 (by decide) (hts (.fieldLink RX7 65 "SeedBattleModel" "units" "I") (List.mem_of_getElem? (i := 1) rfl)) rfl dX7_on_4 ?_
      refine lv_icmp_ge (tgt := 28) hx hb dX7_on_7 (by decide) (fun c => ?_) (fun c => ?_)
      · have hv := hv.1 c
        refine lv_iconst (v := (-1)) hx hb dX7_on_28 (by decide) ?_
        exact G_iret hC hr hk hE hv dX7_on_29
      · have hv := hv.2 c
        refine lv_aload_n hx hb dX7_on_10 rfl (lv_at hl 0 rfl) ?_
        refine G_get (v := .ref (a 2)) hC hE (fun _ h => List.mem_cons_of_mem _ (List.mem_append_left _ (List.mem_append_right _ h))) f_model rfl 1 (by decide) (hts (.fieldLink RX7 13 "SeedBattleModel" "cell" "[I") (List.mem_of_getElem? (i := 2) rfl)) rfl dX7_on_11 ?_
        refine lv_iload_n hx hb dX7_on_14 rfl (lv_at hl 2 rfl) ?_
        refine G_iald hC hE f_m_cell hv.1 dX7_on_15 ?_
        have hv := hv.2
        refine lv_iload_n hx hb dX7_on_16 rfl (lv_at hl 1 rfl) ?_
        refine lv_icmp_ne (tgt := 22) hx hb dX7_on_17 (by decide) (fun c => ?_) (fun c => ?_)
        · have hv := hv.1 c
          refine lv_iinc (v := (v2 + 1)) (lv' := [(2, .int (v2 + 1)), (0, .ref (a 0)), (1, .int v1)]) hx hb dX7_on_22 hl (k := 2) rfl rfl (by decide) rfl (fun ls hl => ?_)
          refine lv_goto (tgt := 2) hx hb dX7_on_25 (by decide) ?_
          exact hK2 _ _ _  hv _ _ _ hE (lv_sub hl [1, 2, 0] rfl)
        · have hv := hv.2 c
          refine lv_iload_n hx hb dX7_on_20 rfl (lv_at hl 2 rfl) ?_
          exact G_iret hC hr hk hE hv dX7_on_21
  refine lv_iconst (v := 0) hx hb dX7_on_0 (by decide) ?_
  refine lv_istore_n (lv' := [(2, .int 0), (0, .ref (a 0)), (1, .int x1)]) hx hb dX7_on_1 rfl hl (by decide) rfl (fun ls hl => ?_)
  exact j_2  _ _ _  hv _ _ _ hE (lv_sub hl [1, 2, 0] rfl)
def J_X7_addUnit_116 (x1 : Int32) (x2 : Int32) (x3 : Int32) (post : Int32 → St → Prop)  (v1 : Int32) (v2 : Int32) (v3 : Int32) (t0 : Int32) (g : St) : Prop := V_X7_no t0 4 g (fun r13 g12 => ((r13 = 0 → vp_in (g12.2 2) 24 ∧ (vp_in ((sA g12 1 (upd (g12.1 1) (Int32.toNatClampNeg (g12.2 2)) v1)).2 2) 24 ∧ (vp_in ((sA (sA g12 1 (upd (g12.1 1) (Int32.toNatClampNeg (g12.2 2)) v1)) 7 (upd ((sA g12 1 (upd (g12.1 1) (Int32.toNatClampNeg (g12.2 2)) v1)).1 7) (Int32.toNatClampNeg ((sA g12 1 (upd (g12.1 1) (Int32.toNatClampNeg (g12.2 2)) v1)).2 2)) (vp_nar .char v2))).2 2) 24 ∧ (post ((sA (sA (sA g12 1 (upd (g12.1 1) (Int32.toNatClampNeg (g12.2 2)) v1)) 7 (upd ((sA g12 1 (upd (g12.1 1) (Int32.toNatClampNeg (g12.2 2)) v1)).1 7) (Int32.toNatClampNeg ((sA g12 1 (upd (g12.1 1) (Int32.toNatClampNeg (g12.2 2)) v1)).2 2)) (vp_nar .char v2))) 2 (upd ((sA (sA g12 1 (upd (g12.1 1) (Int32.toNatClampNeg (g12.2 2)) v1)) 7 (upd ((sA g12 1 (upd (g12.1 1) (Int32.toNatClampNeg (g12.2 2)) v1)).1 7) (Int32.toNatClampNeg ((sA g12 1 (upd (g12.1 1) (Int32.toNatClampNeg (g12.2 2)) v1)).2 2)) (vp_nar .char v2))).1 2) (Int32.toNatClampNeg ((sA (sA g12 1 (upd (g12.1 1) (Int32.toNatClampNeg (g12.2 2)) v1)) 7 (upd ((sA g12 1 (upd (g12.1 1) (Int32.toNatClampNeg (g12.2 2)) v1)).1 7) (Int32.toNatClampNeg ((sA g12 1 (upd (g12.1 1) (Int32.toNatClampNeg (g12.2 2)) v1)).2 2)) (vp_nar .char v2))).2 2)) v3)).2 2) (sS (sA (sA (sA g12 1 (upd (g12.1 1) (Int32.toNatClampNeg (g12.2 2)) v1)) 7 (upd ((sA g12 1 (upd (g12.1 1) (Int32.toNatClampNeg (g12.2 2)) v1)).1 7) (Int32.toNatClampNeg ((sA g12 1 (upd (g12.1 1) (Int32.toNatClampNeg (g12.2 2)) v1)).2 2)) (vp_nar .char v2))) 2 (upd ((sA (sA g12 1 (upd (g12.1 1) (Int32.toNatClampNeg (g12.2 2)) v1)) 7 (upd ((sA g12 1 (upd (g12.1 1) (Int32.toNatClampNeg (g12.2 2)) v1)).1 7) (Int32.toNatClampNeg ((sA g12 1 (upd (g12.1 1) (Int32.toNatClampNeg (g12.2 2)) v1)).2 2)) (vp_nar .char v2))).1 2) (Int32.toNatClampNeg ((sA (sA g12 1 (upd (g12.1 1) (Int32.toNatClampNeg (g12.2 2)) v1)) 7 (upd ((sA g12 1 (upd (g12.1 1) (Int32.toNatClampNeg (g12.2 2)) v1)).1 7) (Int32.toNatClampNeg ((sA g12 1 (upd (g12.1 1) (Int32.toNatClampNeg (g12.2 2)) v1)).2 2)) (vp_nar .char v2))).2 2)) v3)) 2 (((sA (sA (sA g12 1 (upd (g12.1 1) (Int32.toNatClampNeg (g12.2 2)) v1)) 7 (upd ((sA g12 1 (upd (g12.1 1) (Int32.toNatClampNeg (g12.2 2)) v1)).1 7) (Int32.toNatClampNeg ((sA g12 1 (upd (g12.1 1) (Int32.toNatClampNeg (g12.2 2)) v1)).2 2)) (vp_nar .char v2))) 2 (upd ((sA (sA g12 1 (upd (g12.1 1) (Int32.toNatClampNeg (g12.2 2)) v1)) 7 (upd ((sA g12 1 (upd (g12.1 1) (Int32.toNatClampNeg (g12.2 2)) v1)).1 7) (Int32.toNatClampNeg ((sA g12 1 (upd (g12.1 1) (Int32.toNatClampNeg (g12.2 2)) v1)).2 2)) (vp_nar .char v2))).1 2) (Int32.toNatClampNeg ((sA (sA g12 1 (upd (g12.1 1) (Int32.toNatClampNeg (g12.2 2)) v1)) 7 (upd ((sA g12 1 (upd (g12.1 1) (Int32.toNatClampNeg (g12.2 2)) v1)).1 7) (Int32.toNatClampNeg ((sA g12 1 (upd (g12.1 1) (Int32.toNatClampNeg (g12.2 2)) v1)).2 2)) (vp_nar .char v2))).2 2)) v3)).2 2) + 1)))))) ∧ (¬ r13 = 0 → post 0 g12)))
def J_X7_addUnit_115 (x1 : Int32) (x2 : Int32) (x3 : Int32) (post : Int32 → St → Prop)  (v1 : Int32) (v2 : Int32) (v3 : Int32) (g : St) : Prop := J_X7_addUnit_116 x1 x2 x3 post v1 v2 v3 0 g
def J_X7_addUnit_87 (x1 : Int32) (x2 : Int32) (x3 : Int32) (post : Int32 → St → Prop)  (v1 : Int32) (v2 : Int32) (v3 : Int32) (t0 : Int32) (g : St) : Prop := V_X7_no t0 3 g (fun r11 g10 => ((¬ r11 = 0 → post 0 g10) ∧ (r11 = 0 → ((24 ≤ (g10.2 2) → J_X7_addUnit_115 x1 x2 x3 post v1 v2 v3 g10) ∧ (¬ 24 ≤ (g10.2 2) → ((¬ (g10.2 3) = 0 → J_X7_addUnit_115 x1 x2 x3 post v1 v2 v3 g10) ∧ ((g10.2 3) = 0 → J_X7_addUnit_116 x1 x2 x3 post v1 v2 v3 1 g10)))))))
def J_X7_addUnit_86 (x1 : Int32) (x2 : Int32) (x3 : Int32) (post : Int32 → St → Prop)  (v1 : Int32) (v2 : Int32) (v3 : Int32) (g : St) : Prop := J_X7_addUnit_87 x1 x2 x3 post v1 v2 v3 0 g
def J_X7_addUnit_53 (x1 : Int32) (x2 : Int32) (x3 : Int32) (post : Int32 → St → Prop)  (v1 : Int32) (v2 : Int32) (v3 : Int32) (t0 : Int32) (g : St) : Prop := V_X7_no t0 2 g (fun r5 g4 => ((r5 = 0 → V_X7_groundOf v3 g4 (fun r7 g6 => ((r7 = 120 → J_X7_addUnit_86 x1 x2 x3 post v1 v2 v3 g6) ∧ (¬ r7 = 120 → V_X7_on v3 g6 (fun r9 g8 => ((¬ r9 = (-1) → J_X7_addUnit_86 x1 x2 x3 post v1 v2 v3 g8) ∧ (r9 = (-1) → J_X7_addUnit_87 x1 x2 x3 post v1 v2 v3 1 g8))))))) ∧ (¬ r5 = 0 → post 0 g4)))
def J_X7_addUnit_48 (x1 : Int32) (x2 : Int32) (x3 : Int32) (post : Int32 → St → Prop)  (v1 : Int32) (v2 : Int32) (v3 : Int32) (g : St) : Prop := J_X7_addUnit_53 x1 x2 x3 post v1 v2 v3 1 g
def J_X7_addUnit_22 (x1 : Int32) (x2 : Int32) (x3 : Int32) (post : Int32 → St → Prop)  (v1 : Int32) (v2 : Int32) (v3 : Int32) (t0 : Int32) (g : St) : Prop := V_X7_no t0 1 g (fun r3 g2 => ((¬ r3 = 0 → post 0 g2) ∧ (r3 = 0 → ((v2 = 115 → J_X7_addUnit_48 x1 x2 x3 post v1 v2 v3 g2) ∧ (¬ v2 = 115 → ((v2 = 97 → J_X7_addUnit_48 x1 x2 x3 post v1 v2 v3 g2) ∧ (¬ v2 = 97 → ((¬ v2 = 116 → J_X7_addUnit_53 x1 x2 x3 post v1 v2 v3 0 g2) ∧ (v2 = 116 → J_X7_addUnit_48 x1 x2 x3 post v1 v2 v3 g2)))))))))
def J_X7_addUnit_21 (x1 : Int32) (x2 : Int32) (x3 : Int32) (post : Int32 → St → Prop)  (v1 : Int32) (v2 : Int32) (v3 : Int32) (g : St) : Prop := J_X7_addUnit_22 x1 x2 x3 post v1 v2 v3 0 g
def V_X7_addUnit (x1 : Int32) (x2 : Int32) (x3 : Int32) (g : St) (post : Int32 → St → Prop) : Prop := ((x1 < 0 → J_X7_addUnit_21 x1 x2 x3 post x1 x2 x3 g) ∧ (¬ x1 < 0 → ((4 ≤ x1 → J_X7_addUnit_21 x1 x2 x3 post x1 x2 x3 g) ∧ (¬ 4 ≤ x1 → V_X7_isCell x3 (fun r1 => ((r1 = 0 → J_X7_addUnit_21 x1 x2 x3 post x1 x2 x3 g) ∧ (¬ r1 = 0 → J_X7_addUnit_22 x1 x2 x3 post x1 x2 x3 1 g)))))))
abbrev rm_X7_addUnit : Room := { frames := 1, cells := 0, slots := 0, locals := 23 }
set_option maxHeartbeats 4000000 in
set_option maxRecDepth 100000 in
theorem c_X7_addUnit (l : Launch) (D : va_G) (cs az a : Nat → Nat) (x1 : Int32) (x2 : Int32) (x3 : Int32) (g : St) (post : Int32 → St → Prop) (hv : V_X7_addUnit x1 x2 x3 g post) : uMi l yX7_addUnit wsX7_addUnit rm_X7_addUnit D cs az (mW cs a) [.ref (a 0), .int x1, .int x2, .int x3] g post := by
  refine u_ofI (cc := cX7_addUnit) (maxL := 4) (by decide) rfl (Nat.le_of_ble_eq_true rfl) ?_
  intro p e s m args below meth c F ls hC hr hk hl hE
  have hx := hC.1.1; have hb := hC.1.2.1; have hml := hC.1.2.2.1; have hts := hC.1.2.2.2.2
  have hown : s.vm.findClass RX7 = some m.cls := hC.1.2.2.2.1
  have hl : lv_has ls 4 [(0, .ref (a 0)), (1, .int x1), (2, .int x2), (3, .int x3)] := hl
  unfold V_X7_addUnit at hv
  have j_116 : ∀ (v1 : Int32) (v2 : Int32) (v3 : Int32) (t0 : Int32) (g : St), J_X7_addUnit_116 x1 x2 x3 post v1 v2 v3 t0 g → ∀ (H : Heap) (locs : List Loc) (ls : Array Slot), uE D 16 mA (mO a) cs a F s g H locs → lv_has ls 4 [(0, .ref (a 0)), (1, .int v1), (2, .int v2), (3, .int v3)] → W p l e rm_X7_addUnit s m args below meth c H locs 0 0 (MQ below (va_Qi post (uB D (uW 16 mA (mO a) cs a)) F) args s 0 0 F) (F0 m 116 ls [.int t0, .ref (a 0)]) := by
    intro  v1 v2 v3 t0 g  hv
    intro H locs ls hE hl
    unfold J_X7_addUnit_116 at hv
    refine lv_iconst (v := 4) hx hb dX7_addUnit_116 (by decide) ?_
    refine G_callVi hC (c_X7_no l D cs az a t0 4 g _ hv) (cwV 2 hts gX7_addUnit_X7_no rfl rfl rfl (by decide +kernel) ⟨Nat.le_of_ble_eq_true rfl, Nat.le_of_ble_eq_true rfl⟩) f_model rfl rfl hl rfl (Nat.le_of_ble_eq_true rfl) dX7_addUnit_117 hE (fun r13 g12 H locs hv hE => ?_)
    refine lv_if_eq (tgt := 125) hx hb dX7_addUnit_120 (by decide) (fun c => ?_) (fun c => ?_)
    · have hv := hv.1 c
      refine lv_aload_n hx hb dX7_addUnit_125 rfl (lv_at hl 0 rfl) ?_
      refine G_get (v := .ref (a 1)) hC hE (fun _ h => List.mem_cons_of_mem _ (List.mem_append_left _ (List.mem_append_right _ h))) f_model rfl 0 (by decide) (hts (.fieldLink RX7 7 "SeedBattleModel" "player" "[I") (List.mem_of_getElem? (i := 3) rfl)) rfl dX7_addUnit_126 ?_
      refine lv_aload_n hx hb dX7_addUnit_129 rfl (lv_at hl 0 rfl) ?_
      refine G_get (v := .int (g12.2 2)) hC hE (fun _ h => List.mem_cons_of_mem _ (List.mem_append_left _ (List.mem_append_right _ h))) f_model rfl 17 (by decide) (hts (.fieldLink RX7 65 "SeedBattleModel" "units" "I") (List.mem_of_getElem? (i := 1) rfl)) rfl dX7_addUnit_130 ?_
      refine lv_iload_n hx hb dX7_addUnit_133 rfl (lv_at hl 1 rfl) ?_
      refine G_iast hC hE f_m_player hv.1 dX7_addUnit_134 (fun H locs hE => ?_)
      have hv := hv.2
      refine lv_aload_n hx hb dX7_addUnit_135 rfl (lv_at hl 0 rfl) ?_
      refine G_get (v := .ref (a 7)) hC hE (fun _ h => List.mem_cons_of_mem _ (List.mem_append_left _ (List.mem_append_right _ h))) f_model rfl 6 (by decide) (hts (.fieldLink RX7 28 "SeedBattleModel" "kind" "[C") (List.mem_of_getElem? (i := 4) rfl)) rfl dX7_addUnit_136 ?_
      refine lv_aload_n hx hb dX7_addUnit_139 rfl (lv_at hl 0 rfl) ?_
      refine G_get (v := .int ((sA g12 1 (upd (g12.1 1) (Int32.toNatClampNeg (g12.2 2)) v1)).2 2)) hC hE (fun _ h => List.mem_cons_of_mem _ (List.mem_append_left _ (List.mem_append_right _ h))) f_model rfl 17 (by decide) (hts (.fieldLink RX7 65 "SeedBattleModel" "units" "I") (List.mem_of_getElem? (i := 1) rfl)) rfl dX7_addUnit_140 ?_
      refine lv_iload_n hx hb dX7_addUnit_143 rfl (lv_at hl 2 rfl) ?_
      refine G_cast hC hE f_m_kind hv.1 dX7_addUnit_144 (fun H locs hE => ?_)
      have hv := hv.2
      refine lv_aload_n hx hb dX7_addUnit_145 rfl (lv_at hl 0 rfl) ?_
      refine G_get (v := .ref (a 2)) hC hE (fun _ h => List.mem_cons_of_mem _ (List.mem_append_left _ (List.mem_append_right _ h))) f_model rfl 1 (by decide) (hts (.fieldLink RX7 13 "SeedBattleModel" "cell" "[I") (List.mem_of_getElem? (i := 5) rfl)) rfl dX7_addUnit_146 ?_
      refine lv_aload_n hx hb dX7_addUnit_149 rfl (lv_at hl 0 rfl) ?_
      refine G_get (v := .int ((sA (sA g12 1 (upd (g12.1 1) (Int32.toNatClampNeg (g12.2 2)) v1)) 7 (upd ((sA g12 1 (upd (g12.1 1) (Int32.toNatClampNeg (g12.2 2)) v1)).1 7) (Int32.toNatClampNeg ((sA g12 1 (upd (g12.1 1) (Int32.toNatClampNeg (g12.2 2)) v1)).2 2)) (vp_nar .char v2))).2 2)) hC hE (fun _ h => List.mem_cons_of_mem _ (List.mem_append_left _ (List.mem_append_right _ h))) f_model rfl 17 (by decide) (hts (.fieldLink RX7 65 "SeedBattleModel" "units" "I") (List.mem_of_getElem? (i := 1) rfl)) rfl dX7_addUnit_150 ?_
      refine lv_iload_n hx hb dX7_addUnit_153 rfl (lv_at hl 3 rfl) ?_
      refine G_iast hC hE f_m_cell hv.1 dX7_addUnit_154 (fun H locs hE => ?_)
      have hv := hv.2
      refine lv_aload_n hx hb dX7_addUnit_155 rfl (lv_at hl 0 rfl) ?_
      refine lv_dup hx hb dX7_addUnit_156 rfl ?_
      refine G_get (v := .int ((sA (sA (sA g12 1 (upd (g12.1 1) (Int32.toNatClampNeg (g12.2 2)) v1)) 7 (upd ((sA g12 1 (upd (g12.1 1) (Int32.toNatClampNeg (g12.2 2)) v1)).1 7) (Int32.toNatClampNeg ((sA g12 1 (upd (g12.1 1) (Int32.toNatClampNeg (g12.2 2)) v1)).2 2)) (vp_nar .char v2))) 2 (upd ((sA (sA g12 1 (upd (g12.1 1) (Int32.toNatClampNeg (g12.2 2)) v1)) 7 (upd ((sA g12 1 (upd (g12.1 1) (Int32.toNatClampNeg (g12.2 2)) v1)).1 7) (Int32.toNatClampNeg ((sA g12 1 (upd (g12.1 1) (Int32.toNatClampNeg (g12.2 2)) v1)).2 2)) (vp_nar .char v2))).1 2) (Int32.toNatClampNeg ((sA (sA g12 1 (upd (g12.1 1) (Int32.toNatClampNeg (g12.2 2)) v1)) 7 (upd ((sA g12 1 (upd (g12.1 1) (Int32.toNatClampNeg (g12.2 2)) v1)).1 7) (Int32.toNatClampNeg ((sA g12 1 (upd (g12.1 1) (Int32.toNatClampNeg (g12.2 2)) v1)).2 2)) (vp_nar .char v2))).2 2)) v3)).2 2)) hC hE (fun _ h => List.mem_cons_of_mem _ (List.mem_append_left _ (List.mem_append_right _ h))) f_model rfl 17 (by decide) (hts (.fieldLink RX7 65 "SeedBattleModel" "units" "I") (List.mem_of_getElem? (i := 1) rfl)) rfl dX7_addUnit_157 ?_
      refine lv_dup_x1 hx hb dX7_addUnit_160 rfl rfl ?_
      refine lv_iconst (v := 1) hx hb dX7_addUnit_161 (by decide) ?_
      refine lv_iadd hx hb dX7_addUnit_162 ?_
      refine G_put (v := (((sA (sA (sA g12 1 (upd (g12.1 1) (Int32.toNatClampNeg (g12.2 2)) v1)) 7 (upd ((sA g12 1 (upd (g12.1 1) (Int32.toNatClampNeg (g12.2 2)) v1)).1 7) (Int32.toNatClampNeg ((sA g12 1 (upd (g12.1 1) (Int32.toNatClampNeg (g12.2 2)) v1)).2 2)) (vp_nar .char v2))) 2 (upd ((sA (sA g12 1 (upd (g12.1 1) (Int32.toNatClampNeg (g12.2 2)) v1)) 7 (upd ((sA g12 1 (upd (g12.1 1) (Int32.toNatClampNeg (g12.2 2)) v1)).1 7) (Int32.toNatClampNeg ((sA g12 1 (upd (g12.1 1) (Int32.toNatClampNeg (g12.2 2)) v1)).2 2)) (vp_nar .char v2))).1 2) (Int32.toNatClampNeg ((sA (sA g12 1 (upd (g12.1 1) (Int32.toNatClampNeg (g12.2 2)) v1)) 7 (upd ((sA g12 1 (upd (g12.1 1) (Int32.toNatClampNeg (g12.2 2)) v1)).1 7) (Int32.toNatClampNeg ((sA g12 1 (upd (g12.1 1) (Int32.toNatClampNeg (g12.2 2)) v1)).2 2)) (vp_nar .char v2))).2 2)) v3)).2 2) + 1)) (ty := .int) hC hE (fun _ h => List.mem_cons_of_mem _ (List.mem_append_left _ (List.mem_append_right _ h))) tyX7 tyX7_ok nmX7 f_model rfl 17 2 (by decide) (hts (.fieldLink RX7 65 "SeedBattleModel" "units" "I") (List.mem_of_getElem? (i := 1) rfl)) rfl (by decide +kernel) rfl rfl (Nat.le_of_ble_eq_true rfl) (p_model_units_e) (p_model_units_o) dX7_addUnit_163 (fun H locs hE => ?_)
      exact G_iret hC hr hk hE hv dX7_addUnit_166
    · have hv := hv.2 c
      refine lv_iconst (v := 0) hx hb dX7_addUnit_123 (by decide) ?_
      exact G_iret hC hr hk hE hv dX7_addUnit_124
  have j_115 : ∀ (v1 : Int32) (v2 : Int32) (v3 : Int32) (g : St), J_X7_addUnit_115 x1 x2 x3 post v1 v2 v3 g → ∀ (H : Heap) (locs : List Loc) (ls : Array Slot), uE D 16 mA (mO a) cs a F s g H locs → lv_has ls 4 [(0, .ref (a 0)), (1, .int v1), (2, .int v2), (3, .int v3)] → W p l e rm_X7_addUnit s m args below meth c H locs 0 0 (MQ below (va_Qi post (uB D (uW 16 mA (mO a) cs a)) F) args s 0 0 F) (F0 m 115 ls [.ref (a 0)]) := by
    intro  v1 v2 v3 g  hv
    intro H locs ls hE hl
    unfold J_X7_addUnit_115 at hv
    refine lv_iconst (v := 0) hx hb dX7_addUnit_115 (by decide) ?_
    exact j_116  _ _ _ _ _  hv _ _ _ hE (lv_sub hl [0, 1, 2, 3] rfl)
  have j_87 : ∀ (v1 : Int32) (v2 : Int32) (v3 : Int32) (t0 : Int32) (g : St), J_X7_addUnit_87 x1 x2 x3 post v1 v2 v3 t0 g → ∀ (H : Heap) (locs : List Loc) (ls : Array Slot), uE D 16 mA (mO a) cs a F s g H locs → lv_has ls 4 [(0, .ref (a 0)), (1, .int v1), (2, .int v2), (3, .int v3)] → W p l e rm_X7_addUnit s m args below meth c H locs 0 0 (MQ below (va_Qi post (uB D (uW 16 mA (mO a) cs a)) F) args s 0 0 F) (F0 m 87 ls [.int t0, .ref (a 0)]) := by
    intro  v1 v2 v3 t0 g  hv
    intro H locs ls hE hl
    unfold J_X7_addUnit_87 at hv
    refine lv_iconst (v := 3) hx hb dX7_addUnit_87 (by decide) ?_
    refine G_callVi hC (c_X7_no l D cs az a t0 3 g _ hv) (cwV 2 hts gX7_addUnit_X7_no rfl rfl rfl (by decide +kernel) ⟨Nat.le_of_ble_eq_true rfl, Nat.le_of_ble_eq_true rfl⟩) f_model rfl rfl hl rfl (Nat.le_of_ble_eq_true rfl) dX7_addUnit_88 hE (fun r11 g10 H locs hv hE => ?_)
    refine lv_if_ne (tgt := 123) hx hb dX7_addUnit_91 (by decide) (fun c => ?_) (fun c => ?_)
    · have hv := hv.1 c
      refine lv_iconst (v := 0) hx hb dX7_addUnit_123 (by decide) ?_
      exact G_iret hC hr hk hE hv dX7_addUnit_124
    · have hv := hv.2 c
      refine lv_aload_n hx hb dX7_addUnit_94 rfl (lv_at hl 0 rfl) ?_
      refine lv_aload_n hx hb dX7_addUnit_95 rfl (lv_at hl 0 rfl) ?_
      refine G_get (v := .int (g10.2 2)) hC hE (fun _ h => List.mem_cons_of_mem _ (List.mem_append_left _ (List.mem_append_right _ h))) f_model rfl 17 (by decide) (hts (.fieldLink RX7 65 "SeedBattleModel" "units" "I") (List.mem_of_getElem? (i := 1) rfl)) rfl dX7_addUnit_96 ?_
      refine lv_bipush (v := 24) hx hb dX7_addUnit_99 (by decide) ?_
      refine lv_icmp_ge (tgt := 115) hx hb dX7_addUnit_101 (by decide) (fun c => ?_) (fun c => ?_)
      · have hv := hv.1 c
        exact j_115  _ _ _ _  hv _ _ _ hE (lv_sub hl [0, 1, 2, 3] rfl)
      · have hv := hv.2 c
        refine lv_aload_n hx hb dX7_addUnit_104 rfl (lv_at hl 0 rfl) ?_
        refine G_get (v := .int (g10.2 3)) hC hE (fun _ h => List.mem_cons_of_mem _ (List.mem_append_left _ (List.mem_append_right _ h))) f_model rfl 18 (by decide) (hts (.fieldLink RX7 84 "SeedBattleModel" "done" "I") (List.mem_of_getElem? (i := 2) rfl)) rfl dX7_addUnit_105 ?_
        refine lv_if_ne (tgt := 115) hx hb dX7_addUnit_108 (by decide) (fun c => ?_) (fun c => ?_)
        · have hv := hv.1 c
          exact j_115  _ _ _ _  hv _ _ _ hE (lv_sub hl [0, 1, 2, 3] rfl)
        · have hv := hv.2 c
          refine lv_iconst (v := 1) hx hb dX7_addUnit_111 (by decide) ?_
          refine lv_goto (tgt := 116) hx hb dX7_addUnit_112 (by decide) ?_
          exact j_116  _ _ _ _ _  hv _ _ _ hE (lv_sub hl [0, 1, 2, 3] rfl)
  have j_86 : ∀ (v1 : Int32) (v2 : Int32) (v3 : Int32) (g : St), J_X7_addUnit_86 x1 x2 x3 post v1 v2 v3 g → ∀ (H : Heap) (locs : List Loc) (ls : Array Slot), uE D 16 mA (mO a) cs a F s g H locs → lv_has ls 4 [(0, .ref (a 0)), (1, .int v1), (2, .int v2), (3, .int v3)] → W p l e rm_X7_addUnit s m args below meth c H locs 0 0 (MQ below (va_Qi post (uB D (uW 16 mA (mO a) cs a)) F) args s 0 0 F) (F0 m 86 ls [.ref (a 0)]) := by
    intro  v1 v2 v3 g  hv
    intro H locs ls hE hl
    unfold J_X7_addUnit_86 at hv
    refine lv_iconst (v := 0) hx hb dX7_addUnit_86 (by decide) ?_
    exact j_87  _ _ _ _ _  hv _ _ _ hE (lv_sub hl [0, 1, 2, 3] rfl)
  have j_53 : ∀ (v1 : Int32) (v2 : Int32) (v3 : Int32) (t0 : Int32) (g : St), J_X7_addUnit_53 x1 x2 x3 post v1 v2 v3 t0 g → ∀ (H : Heap) (locs : List Loc) (ls : Array Slot), uE D 16 mA (mO a) cs a F s g H locs → lv_has ls 4 [(0, .ref (a 0)), (1, .int v1), (2, .int v2), (3, .int v3)] → W p l e rm_X7_addUnit s m args below meth c H locs 0 0 (MQ below (va_Qi post (uB D (uW 16 mA (mO a) cs a)) F) args s 0 0 F) (F0 m 53 ls [.int t0, .ref (a 0)]) := by
    intro  v1 v2 v3 t0 g  hv
    intro H locs ls hE hl
    unfold J_X7_addUnit_53 at hv
    refine lv_iconst (v := 2) hx hb dX7_addUnit_53 (by decide) ?_
    refine G_callVi hC (c_X7_no l D cs az a t0 2 g _ hv) (cwV 2 hts gX7_addUnit_X7_no rfl rfl rfl (by decide +kernel) ⟨Nat.le_of_ble_eq_true rfl, Nat.le_of_ble_eq_true rfl⟩) f_model rfl rfl hl rfl (Nat.le_of_ble_eq_true rfl) dX7_addUnit_54 hE (fun r5 g4 H locs hv hE => ?_)
    refine lv_if_eq (tgt := 62) hx hb dX7_addUnit_57 (by decide) (fun c => ?_) (fun c => ?_)
    · have hv := hv.1 c
      refine lv_aload_n hx hb dX7_addUnit_62 rfl (lv_at hl 0 rfl) ?_
      refine lv_aload_n hx hb dX7_addUnit_63 rfl (lv_at hl 0 rfl) ?_
      refine lv_iload_n hx hb dX7_addUnit_64 rfl (lv_at hl 3 rfl) ?_
      refine G_callVi hC (c_X7_groundOf l D cs az a v3 g4 _ hv) (cwV 1 hts gX7_addUnit_X7_groundOf rfl rfl rfl (by decide +kernel) ⟨Nat.le_of_ble_eq_true rfl, Nat.le_of_ble_eq_true rfl⟩) f_model rfl rfl hl rfl (Nat.le_of_ble_eq_true rfl) dX7_addUnit_65 hE (fun r7 g6 H locs hv hE => ?_)
      refine lv_bipush (v := 120) hx hb dX7_addUnit_68 (by decide) ?_
      refine lv_icmp_eq (tgt := 86) hx hb dX7_addUnit_70 (by decide) (fun c => ?_) (fun c => ?_)
      · have hv := hv.1 c
        exact j_86  _ _ _ _  hv _ _ _ hE (lv_sub hl [0, 1, 2, 3] rfl)
      · have hv := hv.2 c
        refine lv_aload_n hx hb dX7_addUnit_73 rfl (lv_at hl 0 rfl) ?_
        refine lv_iload_n hx hb dX7_addUnit_74 rfl (lv_at hl 3 rfl) ?_
        refine G_callVi hC (c_X7_on l D cs az a v3 g6 _ hv) (cwV 1 hts gX7_addUnit_X7_on rfl rfl rfl (by decide +kernel) ⟨Nat.le_of_ble_eq_true rfl, Nat.le_of_ble_eq_true rfl⟩) f_model rfl rfl hl rfl (Nat.le_of_ble_eq_true rfl) dX7_addUnit_75 hE (fun r9 g8 H locs hv hE => ?_)
        refine lv_iconst (v := (-1)) hx hb dX7_addUnit_78 (by decide) ?_
        refine lv_icmp_ne (tgt := 86) hx hb dX7_addUnit_79 (by decide) (fun c => ?_) (fun c => ?_)
        · have hv := hv.1 c
          exact j_86  _ _ _ _  hv _ _ _ hE (lv_sub hl [0, 1, 2, 3] rfl)
        · have hv := hv.2 c
          refine lv_iconst (v := 1) hx hb dX7_addUnit_82 (by decide) ?_
          refine lv_goto (tgt := 87) hx hb dX7_addUnit_83 (by decide) ?_
          exact j_87  _ _ _ _ _  hv _ _ _ hE (lv_sub hl [0, 1, 2, 3] rfl)
    · have hv := hv.2 c
      refine lv_iconst (v := 0) hx hb dX7_addUnit_60 (by decide) ?_
      exact G_iret hC hr hk hE hv dX7_addUnit_61
  have j_48 : ∀ (v1 : Int32) (v2 : Int32) (v3 : Int32) (g : St), J_X7_addUnit_48 x1 x2 x3 post v1 v2 v3 g → ∀ (H : Heap) (locs : List Loc) (ls : Array Slot), uE D 16 mA (mO a) cs a F s g H locs → lv_has ls 4 [(0, .ref (a 0)), (1, .int v1), (2, .int v2), (3, .int v3)] → W p l e rm_X7_addUnit s m args below meth c H locs 0 0 (MQ below (va_Qi post (uB D (uW 16 mA (mO a) cs a)) F) args s 0 0 F) (F0 m 48 ls [.ref (a 0)]) := by
    intro  v1 v2 v3 g  hv
    intro H locs ls hE hl
    unfold J_X7_addUnit_48 at hv
    refine lv_iconst (v := 1) hx hb dX7_addUnit_48 (by decide) ?_
    refine lv_goto (tgt := 53) hx hb dX7_addUnit_49 (by decide) ?_
    exact j_53  _ _ _ _ _  hv _ _ _ hE (lv_sub hl [0, 1, 2, 3] rfl)
  have j_22 : ∀ (v1 : Int32) (v2 : Int32) (v3 : Int32) (t0 : Int32) (g : St), J_X7_addUnit_22 x1 x2 x3 post v1 v2 v3 t0 g → ∀ (H : Heap) (locs : List Loc) (ls : Array Slot), uE D 16 mA (mO a) cs a F s g H locs → lv_has ls 4 [(0, .ref (a 0)), (1, .int v1), (2, .int v2), (3, .int v3)] → W p l e rm_X7_addUnit s m args below meth c H locs 0 0 (MQ below (va_Qi post (uB D (uW 16 mA (mO a) cs a)) F) args s 0 0 F) (F0 m 22 ls [.int t0, .ref (a 0)]) := by
    intro  v1 v2 v3 t0 g  hv
    intro H locs ls hE hl
    unfold J_X7_addUnit_22 at hv
    refine lv_iconst (v := 1) hx hb dX7_addUnit_22 (by decide) ?_
    refine G_callVi hC (c_X7_no l D cs az a t0 1 g _ hv) (cwV 2 hts gX7_addUnit_X7_no rfl rfl rfl (by decide +kernel) ⟨Nat.le_of_ble_eq_true rfl, Nat.le_of_ble_eq_true rfl⟩) f_model rfl rfl hl rfl (Nat.le_of_ble_eq_true rfl) dX7_addUnit_23 hE (fun r3 g2 H locs hv hE => ?_)
    refine lv_if_ne (tgt := 60) hx hb dX7_addUnit_26 (by decide) (fun c => ?_) (fun c => ?_)
    · have hv := hv.1 c
      refine lv_iconst (v := 0) hx hb dX7_addUnit_60 (by decide) ?_
      exact G_iret hC hr hk hE hv dX7_addUnit_61
    · have hv := hv.2 c
      refine lv_aload_n hx hb dX7_addUnit_29 rfl (lv_at hl 0 rfl) ?_
      refine lv_iload_n hx hb dX7_addUnit_30 rfl (lv_at hl 2 rfl) ?_
      refine lv_bipush (v := 115) hx hb dX7_addUnit_31 (by decide) ?_
      refine lv_icmp_eq (tgt := 48) hx hb dX7_addUnit_33 (by decide) (fun c => ?_) (fun c => ?_)
      · have hv := hv.1 c
        exact j_48  _ _ _ _  hv _ _ _ hE (lv_sub hl [0, 1, 2, 3] rfl)
      · have hv := hv.2 c
        refine lv_iload_n hx hb dX7_addUnit_36 rfl (lv_at hl 2 rfl) ?_
        refine lv_bipush (v := 97) hx hb dX7_addUnit_37 (by decide) ?_
        refine lv_icmp_eq (tgt := 48) hx hb dX7_addUnit_39 (by decide) (fun c => ?_) (fun c => ?_)
        · have hv := hv.1 c
          exact j_48  _ _ _ _  hv _ _ _ hE (lv_sub hl [0, 1, 2, 3] rfl)
        · have hv := hv.2 c
          refine lv_iload_n hx hb dX7_addUnit_42 rfl (lv_at hl 2 rfl) ?_
          refine lv_bipush (v := 116) hx hb dX7_addUnit_43 (by decide) ?_
          refine lv_icmp_ne (tgt := 52) hx hb dX7_addUnit_45 (by decide) (fun c => ?_) (fun c => ?_)
          · have hv := hv.1 c
            refine lv_iconst (v := 0) hx hb dX7_addUnit_52 (by decide) ?_
            exact j_53  _ _ _ _ _  hv _ _ _ hE (lv_sub hl [0, 1, 2, 3] rfl)
          · have hv := hv.2 c
            exact j_48  _ _ _ _  hv _ _ _ hE (lv_sub hl [0, 1, 2, 3] rfl)
  have j_21 : ∀ (v1 : Int32) (v2 : Int32) (v3 : Int32) (g : St), J_X7_addUnit_21 x1 x2 x3 post v1 v2 v3 g → ∀ (H : Heap) (locs : List Loc) (ls : Array Slot), uE D 16 mA (mO a) cs a F s g H locs → lv_has ls 4 [(0, .ref (a 0)), (1, .int v1), (2, .int v2), (3, .int v3)] → W p l e rm_X7_addUnit s m args below meth c H locs 0 0 (MQ below (va_Qi post (uB D (uW 16 mA (mO a) cs a)) F) args s 0 0 F) (F0 m 21 ls [.ref (a 0)]) := by
    intro  v1 v2 v3 g  hv
    intro H locs ls hE hl
    unfold J_X7_addUnit_21 at hv
    refine lv_iconst (v := 0) hx hb dX7_addUnit_21 (by decide) ?_
    exact j_22  _ _ _ _ _  hv _ _ _ hE (lv_sub hl [0, 1, 2, 3] rfl)
  refine lv_aload_n hx hb dX7_addUnit_0 rfl (lv_at hl 0 rfl) ?_
  refine lv_iload_n hx hb dX7_addUnit_1 rfl (lv_at hl 1 rfl) ?_
  refine lv_if_lt (tgt := 21) hx hb dX7_addUnit_2 (by decide) (fun c => ?_) (fun c => ?_)
  · have hv := hv.1 c
    exact j_21  _ _ _ _  hv _ _ _ hE (lv_sub hl [0, 1, 2, 3] rfl)
  · have hv := hv.2 c
    refine lv_iload_n hx hb dX7_addUnit_5 rfl (lv_at hl 1 rfl) ?_
    refine lv_iconst (v := 4) hx hb dX7_addUnit_6 (by decide) ?_
    refine lv_icmp_ge (tgt := 21) hx hb dX7_addUnit_7 (by decide) (fun c => ?_) (fun c => ?_)
    · have hv := hv.1 c
      exact j_21  _ _ _ _  hv _ _ _ hE (lv_sub hl [0, 1, 2, 3] rfl)
    · have hv := hv.2 c
      refine lv_iload_n hx hb dX7_addUnit_10 rfl (lv_at hl 3 rfl) ?_
      refine G_callSs hC.1 hC.2.2.2.2.1 (c_X7_isCell l x3 _ hv) (va_cwS 1 hts gX7_addUnit_X7_isCell rfl rfl rfl (by decide +kernel) ⟨Nat.le_of_ble_eq_true rfl, Nat.le_of_ble_eq_true rfl⟩) rfl hl rfl (Nat.le_of_ble_eq_true rfl) dX7_addUnit_11 (Nat.zero_le _) (Nat.zero_le _) (fun r1 hv => ?_)
      refine lv_if_eq (tgt := 21) hx hb dX7_addUnit_14 (by decide) (fun c => ?_) (fun c => ?_)
      · have hv := hv.1 c
        exact j_21  _ _ _ _  hv _ _ _ hE (lv_sub hl [0, 1, 2, 3] rfl)
      · have hv := hv.2 c
        refine lv_iconst (v := 1) hx hb dX7_addUnit_17 (by decide) ?_
        refine lv_goto (tgt := 22) hx hb dX7_addUnit_18 (by decide) ?_
        exact j_22  _ _ _ _ _  hv _ _ _ hE (lv_sub hl [0, 1, 2, 3] rfl)
def J_X7_order_96 (x1 : Int32) (x2 : Int32) (post : Int32 → St → Prop)  (v1 : Int32) (g : St) : Prop := vp_in v1 24 ∧ (vp_in v1 24 ∧ (post ((g.1 4 (Int32.toNatClampNeg v1)) + 1) (sA g 4 (upd (g.1 4) (Int32.toNatClampNeg v1) ((g.1 4 (Int32.toNatClampNeg v1)) + 1)))))
def J_X7_order_61 (x1 : Int32) (x2 : Int32) (post : Int32 → St → Prop)  (v1 : Int32) (v2 : Int32) (t0 : Int32) (g : St) : Prop := V_X7_no t0 3 g (fun r8 g7 => ((r8 = 0 → vp_in v1 24 ∧ (((¬ (g7.1 4 (Int32.toNatClampNeg v1)) = 0 → vp_in v1 24 ∧ (J_X7_order_96 x1 x2 post v1 (sA g7 6 (upd (g7.1 6) (Int32.toNatClampNeg v1) v2)))) ∧ ((g7.1 4 (Int32.toNatClampNeg v1)) = 0 → vp_in v1 24 ∧ (J_X7_order_96 x1 x2 post v1 (sA g7 5 (upd (g7.1 5) (Int32.toNatClampNeg v1) v2))))))) ∧ (¬ r8 = 0 → post 0 g7)))
def J_X7_order_60 (x1 : Int32) (x2 : Int32) (post : Int32 → St → Prop)  (v1 : Int32) (v2 : Int32) (g : St) : Prop := J_X7_order_61 x1 x2 post v1 v2 0 g
def J_X7_order_24 (x1 : Int32) (x2 : Int32) (post : Int32 → St → Prop)  (v1 : Int32) (v2 : Int32) (t0 : Int32) (g : St) : Prop := V_X7_no t0 2 g (fun r4 g3 => ((¬ r4 = 0 → post 0 g3) ∧ (r4 = 0 → vp_in v1 24 ∧ ((((g3.1 2 (Int32.toNatClampNeg v1)) = (-1) → J_X7_order_60 x1 x2 post v1 v2 g3) ∧ (¬ (g3.1 2 (Int32.toNatClampNeg v1)) = (-1) → vp_in v1 24 ∧ (V_X7_steps v1 g3 (fun r6 g5 => ((r6 ≤ (g3.1 4 (Int32.toNatClampNeg v1)) → J_X7_order_60 x1 x2 post v1 v2 g5) ∧ (¬ r6 ≤ (g3.1 4 (Int32.toNatClampNeg v1)) → J_X7_order_61 x1 x2 post v1 v2 1 g5))))))))))
def J_X7_order_23 (x1 : Int32) (x2 : Int32) (post : Int32 → St → Prop)  (v1 : Int32) (v2 : Int32) (g : St) : Prop := J_X7_order_24 x1 x2 post v1 v2 0 g
def V_X7_order (x1 : Int32) (x2 : Int32) (g : St) (post : Int32 → St → Prop) : Prop := V_X7_noUnit x1 g (fun r2 g1 => ((¬ r2 = 0 → post 0 g1) ∧ (r2 = 0 → ((x2 < 0 → J_X7_order_23 x1 x2 post x1 x2 g1) ∧ (¬ x2 < 0 → ((8 ≤ x2 → J_X7_order_23 x1 x2 post x1 x2 g1) ∧ (¬ 8 ≤ x2 → J_X7_order_24 x1 x2 post x1 x2 1 g1)))))))
abbrev rm_X7_order : Room := { frames := 2, cells := 0, slots := 0, locals := 43 }
set_option maxHeartbeats 4000000 in
set_option maxRecDepth 100000 in
theorem c_X7_order (l : Launch) (D : va_G) (cs az a : Nat → Nat) (x1 : Int32) (x2 : Int32) (g : St) (post : Int32 → St → Prop) (hv : V_X7_order x1 x2 g post) : uMi l yX7_order wsX7_order rm_X7_order D cs az (mW cs a) [.ref (a 0), .int x1, .int x2] g post := by
  refine u_ofI (cc := cX7_order) (maxL := 3) (by decide) rfl (Nat.le_of_ble_eq_true rfl) ?_
  intro p e s m args below meth c F ls hC hr hk hl hE
  have hx := hC.1.1; have hb := hC.1.2.1; have hml := hC.1.2.2.1; have hts := hC.1.2.2.2.2
  have hown : s.vm.findClass RX7 = some m.cls := hC.1.2.2.2.1
  have hl : lv_has ls 3 [(0, .ref (a 0)), (1, .int x1), (2, .int x2)] := hl
  unfold V_X7_order at hv
  have j_96 : ∀ (v1 : Int32) (g : St), J_X7_order_96 x1 x2 post v1 g → ∀ (H : Heap) (locs : List Loc) (ls : Array Slot), uE D 16 mA (mO a) cs a F s g H locs → lv_has ls 3 [(0, .ref (a 0)), (1, .int v1)] → W p l e rm_X7_order s m args below meth c H locs 0 0 (MQ below (va_Qi post (uB D (uW 16 mA (mO a) cs a)) F) args s 0 0 F) (F0 m 96 ls []) := by
    intro  v1 g  hv
    intro H locs ls hE hl
    unfold J_X7_order_96 at hv
    refine lv_aload_n hx hb dX7_order_96 rfl (lv_at hl 0 rfl) ?_
    refine G_get (v := .ref (a 4)) hC hE (fun _ h => List.mem_cons_of_mem _ (List.mem_append_left _ (List.mem_append_right _ h))) f_model rfl 3 (by decide) (hts (.fieldLink RX7 19 "SeedBattleModel" "many" "[I") (List.mem_of_getElem? (i := 2) rfl)) rfl dX7_order_97 ?_
    refine lv_iload_n hx hb dX7_order_100 rfl (lv_at hl 1 rfl) ?_
    refine lv_dup2_11 hx hb dX7_order_101 rfl rfl ?_
    refine G_iald hC hE f_m_many hv.1 dX7_order_102 ?_
    have hv := hv.2
    refine lv_iconst (v := 1) hx hb dX7_order_103 (by decide) ?_
    refine lv_iadd hx hb dX7_order_104 ?_
    refine lv_dup_x2 hx hb dX7_order_105 rfl rfl rfl ?_
    refine G_iast hC hE f_m_many hv.1 dX7_order_106 (fun H locs hE => ?_)
    have hv := hv.2
    exact G_iret hC hr hk hE hv dX7_order_107
  have j_61 : ∀ (v1 : Int32) (v2 : Int32) (t0 : Int32) (g : St), J_X7_order_61 x1 x2 post v1 v2 t0 g → ∀ (H : Heap) (locs : List Loc) (ls : Array Slot), uE D 16 mA (mO a) cs a F s g H locs → lv_has ls 3 [(0, .ref (a 0)), (1, .int v1), (2, .int v2)] → W p l e rm_X7_order s m args below meth c H locs 0 0 (MQ below (va_Qi post (uB D (uW 16 mA (mO a) cs a)) F) args s 0 0 F) (F0 m 61 ls [.int t0, .ref (a 0)]) := by
    intro  v1 v2 t0 g  hv
    intro H locs ls hE hl
    unfold J_X7_order_61 at hv
    refine lv_iconst (v := 3) hx hb dX7_order_61 (by decide) ?_
    refine G_callVi hC (c_X7_no l D cs az a t0 3 g _ hv) (cwV 2 hts gX7_order_X7_no rfl rfl rfl (by decide +kernel) ⟨Nat.le_of_ble_eq_true rfl, Nat.le_of_ble_eq_true rfl⟩) f_model rfl rfl hl rfl (Nat.le_of_ble_eq_true rfl) dX7_order_62 hE (fun r8 g7 H locs hv hE => ?_)
    refine lv_if_eq (tgt := 70) hx hb dX7_order_65 (by decide) (fun c => ?_) (fun c => ?_)
    · have hv := hv.1 c
      refine lv_aload_n hx hb dX7_order_70 rfl (lv_at hl 0 rfl) ?_
      refine G_get (v := .ref (a 4)) hC hE (fun _ h => List.mem_cons_of_mem _ (List.mem_append_left _ (List.mem_append_right _ h))) f_model rfl 3 (by decide) (hts (.fieldLink RX7 19 "SeedBattleModel" "many" "[I") (List.mem_of_getElem? (i := 2) rfl)) rfl dX7_order_71 ?_
      refine lv_iload_n hx hb dX7_order_74 rfl (lv_at hl 1 rfl) ?_
      refine G_iald hC hE f_m_many hv.1 dX7_order_75 ?_
      have hv := hv.2
      refine lv_if_ne (tgt := 89) hx hb dX7_order_76 (by decide) (fun c => ?_) (fun c => ?_)
      · have hv := hv.1 c
        refine lv_aload_n hx hb dX7_order_89 rfl (lv_at hl 0 rfl) ?_
        refine G_get (v := .ref (a 6)) hC hE (fun _ h => List.mem_cons_of_mem _ (List.mem_append_left _ (List.mem_append_right _ h))) f_model rfl 5 (by decide) (hts (.fieldLink RX7 25 "SeedBattleModel" "second" "[I") (List.mem_of_getElem? (i := 4) rfl)) rfl dX7_order_90 ?_
        refine lv_iload_n hx hb dX7_order_93 rfl (lv_at hl 1 rfl) ?_
        refine lv_iload_n hx hb dX7_order_94 rfl (lv_at hl 2 rfl) ?_
        refine G_iast hC hE f_m_second hv.1 dX7_order_95 (fun H locs hE => ?_)
        have hv := hv.2
        exact j_96  _ _  hv _ _ _ hE (lv_sub hl [0, 1] rfl)
      · have hv := hv.2 c
        refine lv_aload_n hx hb dX7_order_79 rfl (lv_at hl 0 rfl) ?_
        refine G_get (v := .ref (a 5)) hC hE (fun _ h => List.mem_cons_of_mem _ (List.mem_append_left _ (List.mem_append_right _ h))) f_model rfl 4 (by decide) (hts (.fieldLink RX7 22 "SeedBattleModel" "first" "[I") (List.mem_of_getElem? (i := 3) rfl)) rfl dX7_order_80 ?_
        refine lv_iload_n hx hb dX7_order_83 rfl (lv_at hl 1 rfl) ?_
        refine lv_iload_n hx hb dX7_order_84 rfl (lv_at hl 2 rfl) ?_
        refine G_iast hC hE f_m_first hv.1 dX7_order_85 (fun H locs hE => ?_)
        have hv := hv.2
        refine lv_goto (tgt := 96) hx hb dX7_order_86 (by decide) ?_
        exact j_96  _ _  hv _ _ _ hE (lv_sub hl [0, 1] rfl)
    · have hv := hv.2 c
      refine lv_iconst (v := 0) hx hb dX7_order_68 (by decide) ?_
      exact G_iret hC hr hk hE hv dX7_order_69
  have j_60 : ∀ (v1 : Int32) (v2 : Int32) (g : St), J_X7_order_60 x1 x2 post v1 v2 g → ∀ (H : Heap) (locs : List Loc) (ls : Array Slot), uE D 16 mA (mO a) cs a F s g H locs → lv_has ls 3 [(0, .ref (a 0)), (1, .int v1), (2, .int v2)] → W p l e rm_X7_order s m args below meth c H locs 0 0 (MQ below (va_Qi post (uB D (uW 16 mA (mO a) cs a)) F) args s 0 0 F) (F0 m 60 ls [.ref (a 0)]) := by
    intro  v1 v2 g  hv
    intro H locs ls hE hl
    unfold J_X7_order_60 at hv
    refine lv_iconst (v := 0) hx hb dX7_order_60 (by decide) ?_
    exact j_61  _ _ _ _  hv _ _ _ hE (lv_sub hl [0, 1, 2] rfl)
  have j_24 : ∀ (v1 : Int32) (v2 : Int32) (t0 : Int32) (g : St), J_X7_order_24 x1 x2 post v1 v2 t0 g → ∀ (H : Heap) (locs : List Loc) (ls : Array Slot), uE D 16 mA (mO a) cs a F s g H locs → lv_has ls 3 [(0, .ref (a 0)), (1, .int v1), (2, .int v2)] → W p l e rm_X7_order s m args below meth c H locs 0 0 (MQ below (va_Qi post (uB D (uW 16 mA (mO a) cs a)) F) args s 0 0 F) (F0 m 24 ls [.int t0, .ref (a 0)]) := by
    intro  v1 v2 t0 g  hv
    intro H locs ls hE hl
    unfold J_X7_order_24 at hv
    refine lv_iconst (v := 2) hx hb dX7_order_24 (by decide) ?_
    refine G_callVi hC (c_X7_no l D cs az a t0 2 g _ hv) (cwV 2 hts gX7_order_X7_no rfl rfl rfl (by decide +kernel) ⟨Nat.le_of_ble_eq_true rfl, Nat.le_of_ble_eq_true rfl⟩) f_model rfl rfl hl rfl (Nat.le_of_ble_eq_true rfl) dX7_order_25 hE (fun r4 g3 H locs hv hE => ?_)
    refine lv_if_ne (tgt := 68) hx hb dX7_order_28 (by decide) (fun c => ?_) (fun c => ?_)
    · have hv := hv.1 c
      refine lv_iconst (v := 0) hx hb dX7_order_68 (by decide) ?_
      exact G_iret hC hr hk hE hv dX7_order_69
    · have hv := hv.2 c
      refine lv_aload_n hx hb dX7_order_31 rfl (lv_at hl 0 rfl) ?_
      refine lv_aload_n hx hb dX7_order_32 rfl (lv_at hl 0 rfl) ?_
      refine G_get (v := .ref (a 2)) hC hE (fun _ h => List.mem_cons_of_mem _ (List.mem_append_left _ (List.mem_append_right _ h))) f_model rfl 1 (by decide) (hts (.fieldLink RX7 13 "SeedBattleModel" "cell" "[I") (List.mem_of_getElem? (i := 1) rfl)) rfl dX7_order_33 ?_
      refine lv_iload_n hx hb dX7_order_36 rfl (lv_at hl 1 rfl) ?_
      refine G_iald hC hE f_m_cell hv.1 dX7_order_37 ?_
      have hv := hv.2
      refine lv_iconst (v := (-1)) hx hb dX7_order_38 (by decide) ?_
      refine lv_icmp_eq (tgt := 60) hx hb dX7_order_39 (by decide) (fun c => ?_) (fun c => ?_)
      · have hv := hv.1 c
        exact j_60  _ _ _  hv _ _ _ hE (lv_sub hl [0, 1, 2] rfl)
      · have hv := hv.2 c
        refine lv_aload_n hx hb dX7_order_42 rfl (lv_at hl 0 rfl) ?_
        refine G_get (v := .ref (a 4)) hC hE (fun _ h => List.mem_cons_of_mem _ (List.mem_append_left _ (List.mem_append_right _ h))) f_model rfl 3 (by decide) (hts (.fieldLink RX7 19 "SeedBattleModel" "many" "[I") (List.mem_of_getElem? (i := 2) rfl)) rfl dX7_order_43 ?_
        refine lv_iload_n hx hb dX7_order_46 rfl (lv_at hl 1 rfl) ?_
        refine G_iald hC hE f_m_many hv.1 dX7_order_47 ?_
        have hv := hv.2
        refine lv_aload_n hx hb dX7_order_48 rfl (lv_at hl 0 rfl) ?_
        refine lv_iload_n hx hb dX7_order_49 rfl (lv_at hl 1 rfl) ?_
        refine G_callVi hC (c_X7_steps l D cs az a v1 g3 _ hv) (cwV 1 hts gX7_order_X7_steps rfl rfl rfl (by decide +kernel) ⟨Nat.le_of_ble_eq_true rfl, Nat.le_of_ble_eq_true rfl⟩) f_model rfl rfl hl rfl (Nat.le_of_ble_eq_true rfl) dX7_order_50 hE (fun r6 g5 H locs hv hE => ?_)
        refine lv_icmp_ge (tgt := 60) hx hb dX7_order_53 (by decide) (fun c => ?_) (fun c => ?_)
        · have hv := hv.1 c
          exact j_60  _ _ _  hv _ _ _ hE (lv_sub hl [0, 1, 2] rfl)
        · have hv := hv.2 c
          refine lv_iconst (v := 1) hx hb dX7_order_56 (by decide) ?_
          refine lv_goto (tgt := 61) hx hb dX7_order_57 (by decide) ?_
          exact j_61  _ _ _ _  hv _ _ _ hE (lv_sub hl [0, 1, 2] rfl)
  have j_23 : ∀ (v1 : Int32) (v2 : Int32) (g : St), J_X7_order_23 x1 x2 post v1 v2 g → ∀ (H : Heap) (locs : List Loc) (ls : Array Slot), uE D 16 mA (mO a) cs a F s g H locs → lv_has ls 3 [(0, .ref (a 0)), (1, .int v1), (2, .int v2)] → W p l e rm_X7_order s m args below meth c H locs 0 0 (MQ below (va_Qi post (uB D (uW 16 mA (mO a) cs a)) F) args s 0 0 F) (F0 m 23 ls [.ref (a 0)]) := by
    intro  v1 v2 g  hv
    intro H locs ls hE hl
    unfold J_X7_order_23 at hv
    refine lv_iconst (v := 0) hx hb dX7_order_23 (by decide) ?_
    exact j_24  _ _ _ _  hv _ _ _ hE (lv_sub hl [0, 1, 2] rfl)
  refine lv_aload_n hx hb dX7_order_0 rfl (lv_at hl 0 rfl) ?_
  refine lv_iload_n hx hb dX7_order_1 rfl (lv_at hl 1 rfl) ?_
  refine G_callVi hC (c_X7_noUnit l D cs az a x1 g _ hv) (cwV 1 hts gX7_order_X7_noUnit rfl rfl rfl (by decide +kernel) ⟨Nat.le_of_ble_eq_true rfl, Nat.le_of_ble_eq_true rfl⟩) f_model rfl rfl hl rfl (Nat.le_of_ble_eq_true rfl) dX7_order_2 hE (fun r2 g1 H locs hv hE => ?_)
  refine lv_if_ne (tgt := 68) hx hb dX7_order_5 (by decide) (fun c => ?_) (fun c => ?_)
  · have hv := hv.1 c
    refine lv_iconst (v := 0) hx hb dX7_order_68 (by decide) ?_
    exact G_iret hC hr hk hE hv dX7_order_69
  · have hv := hv.2 c
    refine lv_aload_n hx hb dX7_order_8 rfl (lv_at hl 0 rfl) ?_
    refine lv_iload_n hx hb dX7_order_9 rfl (lv_at hl 2 rfl) ?_
    refine lv_if_lt (tgt := 23) hx hb dX7_order_10 (by decide) (fun c => ?_) (fun c => ?_)
    · have hv := hv.1 c
      exact j_23  _ _ _  hv _ _ _ hE (lv_sub hl [0, 1, 2] rfl)
    · have hv := hv.2 c
      refine lv_iload_n hx hb dX7_order_13 rfl (lv_at hl 2 rfl) ?_
      refine lv_bipush (v := 8) hx hb dX7_order_14 (by decide) ?_
      refine lv_icmp_ge (tgt := 23) hx hb dX7_order_16 (by decide) (fun c => ?_) (fun c => ?_)
      · have hv := hv.1 c
        exact j_23  _ _ _  hv _ _ _ hE (lv_sub hl [0, 1, 2] rfl)
      · have hv := hv.2 c
        refine lv_iconst (v := 1) hx hb dX7_order_19 (by decide) ?_
        refine lv_goto (tgt := 24) hx hb dX7_order_20 (by decide) ?_
        exact j_24  _ _ _ _  hv _ _ _ hE (lv_sub hl [0, 1, 2] rfl)
def V_X7_lose (x1 : Int32) (g : St) (post : St → Prop) : Prop := vp_in x1 24 ∧ (vp_in x1 24 ∧ (post (sA (sA g 2 (upd (g.1 2) (Int32.toNatClampNeg x1) (-1))) 3 (upd ((sA g 2 (upd (g.1 2) (Int32.toNatClampNeg x1) (-1))).1 3) (Int32.toNatClampNeg x1) (-1)))))
abbrev rm_X7_lose : Room := { frames := 0, cells := 0, slots := 0, locals := 0 }
set_option maxHeartbeats 4000000 in
set_option maxRecDepth 100000 in
theorem c_X7_lose (l : Launch) (D : va_G) (cs az a : Nat → Nat) (x1 : Int32) (g : St) (post : St → Prop) (hv : V_X7_lose x1 g post) : uMv l yX7_lose wsX7_lose rm_X7_lose D cs az (mW cs a) [.ref (a 0), .int x1] g post := by
  refine u_ofV (cc := cX7_lose) (maxL := 2) (by decide) rfl (Nat.le_of_ble_eq_true rfl) ?_
  intro p e s m args below meth c F ls hC hr hk hl hE
  have hx := hC.1.1; have hb := hC.1.2.1; have hml := hC.1.2.2.1; have hts := hC.1.2.2.2.2
  have hown : s.vm.findClass RX7 = some m.cls := hC.1.2.2.2.1
  have hl : lv_has ls 2 [(0, .ref (a 0)), (1, .int x1)] := hl
  unfold V_X7_lose at hv
  refine lv_aload_n hx hb dX7_lose_0 rfl (lv_at hl 0 rfl) ?_
  refine G_get (v := .ref (a 2)) hC hE (fun _ h => List.mem_cons_of_mem _ (List.mem_append_left _ (List.mem_append_right _ h))) f_model rfl 1 (by decide) (hts (.fieldLink RX7 13 "SeedBattleModel" "cell" "[I") (List.mem_of_getElem? (i := 1) rfl)) rfl dX7_lose_1 ?_
  refine lv_iload_n hx hb dX7_lose_4 rfl (lv_at hl 1 rfl) ?_
  refine lv_iconst (v := (-1)) hx hb dX7_lose_5 (by decide) ?_
  refine G_iast hC hE f_m_cell hv.1 dX7_lose_6 (fun H locs hE => ?_)
  have hv := hv.2
  refine lv_aload_n hx hb dX7_lose_7 rfl (lv_at hl 0 rfl) ?_
  refine G_get (v := .ref (a 3)) hC hE (fun _ h => List.mem_cons_of_mem _ (List.mem_append_left _ (List.mem_append_right _ h))) f_model rfl 2 (by decide) (hts (.fieldLink RX7 16 "SeedBattleModel" "wants" "[I") (List.mem_of_getElem? (i := 2) rfl)) rfl dX7_lose_8 ?_
  refine lv_iload_n hx hb dX7_lose_11 rfl (lv_at hl 1 rfl) ?_
  refine lv_iconst (v := (-1)) hx hb dX7_lose_12 (by decide) ?_
  refine G_iast hC hE f_m_wants hv.1 dX7_lose_13 (fun H locs hE => ?_)
  have hv := hv.2
  exact G_vret hC hr hk hE hv dX7_lose_14
def J_X7_meets_150 (x1 : Int32) (x2 : Int32) (post : St → Prop)  (t0 : Int32) (g : St) : Prop := V_X7_lose t0 g (fun g9 => post g9)
def J_X7_meets_70 (x1 : Int32) (x2 : Int32) (post : St → Prop)  (v1 : Int32) (v2 : Int32) (t0 : Int32) (g : St) : Prop := ((t0 = 0 → post g) ∧ (¬ t0 = 0 → vp_in v1 24 ∧ (vp_in v2 24 ∧ (((¬ (g.1 1 (Int32.toNatClampNeg v1)) = (g.1 1 (Int32.toNatClampNeg v2)) → V_X7_power v1 g (fun r2 g1 => V_X7_power v2 g1 (fun r4 g3 => ((¬ r2 = r4 → V_X7_power v1 g3 (fun r6 g5 => V_X7_power v2 g5 (fun r8 g7 => ((r8 ≤ r6 → J_X7_meets_150 x1 x2 post v2 g7) ∧ (¬ r8 ≤ r6 → J_X7_meets_150 x1 x2 post v1 g7))))) ∧ (r2 = r4 → vp_in v1 24 ∧ (vp_in v1 24 ∧ (vp_in v2 24 ∧ (vp_in v2 24 ∧ (post (sA (sA g3 3 (upd (g3.1 3) (Int32.toNatClampNeg v1) (g3.1 2 (Int32.toNatClampNeg v1)))) 3 (upd ((sA g3 3 (upd (g3.1 3) (Int32.toNatClampNeg v1) (g3.1 2 (Int32.toNatClampNeg v1)))).1 3) (Int32.toNatClampNeg v2) ((sA g3 3 (upd (g3.1 3) (Int32.toNatClampNeg v1) (g3.1 2 (Int32.toNatClampNeg v1)))).1 2 (Int32.toNatClampNeg v2))))))))))))) ∧ ((g.1 1 (Int32.toNatClampNeg v1)) = (g.1 1 (Int32.toNatClampNeg v2)) → post g))))))
def J_X7_meets_69 (x1 : Int32) (x2 : Int32) (post : St → Prop)  (v1 : Int32) (v2 : Int32) (g : St) : Prop := J_X7_meets_70 x1 x2 post v1 v2 0 g
def V_X7_meets (x1 : Int32) (x2 : Int32) (g : St) (post : St → Prop) : Prop := vp_in x1 24 ∧ ((((g.1 2 (Int32.toNatClampNeg x1)) = (-1) → J_X7_meets_69 x1 x2 post x1 x2 g) ∧ (¬ (g.1 2 (Int32.toNatClampNeg x1)) = (-1) → vp_in x2 24 ∧ ((((g.1 2 (Int32.toNatClampNeg x2)) = (-1) → J_X7_meets_69 x1 x2 post x1 x2 g) ∧ (¬ (g.1 2 (Int32.toNatClampNeg x2)) = (-1) → vp_in x1 24 ∧ (vp_in x2 24 ∧ ((((g.1 2 (Int32.toNatClampNeg x1)) = (g.1 2 (Int32.toNatClampNeg x2)) → J_X7_meets_69 x1 x2 post x1 x2 g) ∧ (¬ (g.1 2 (Int32.toNatClampNeg x1)) = (g.1 2 (Int32.toNatClampNeg x2)) → vp_in x1 24 ∧ (vp_in x2 24 ∧ (((¬ (g.1 3 (Int32.toNatClampNeg x1)) = (g.1 2 (Int32.toNatClampNeg x2)) → J_X7_meets_69 x1 x2 post x1 x2 g) ∧ ((g.1 3 (Int32.toNatClampNeg x1)) = (g.1 2 (Int32.toNatClampNeg x2)) → vp_in x2 24 ∧ (vp_in x1 24 ∧ (((¬ (g.1 3 (Int32.toNatClampNeg x2)) = (g.1 2 (Int32.toNatClampNeg x1)) → J_X7_meets_69 x1 x2 post x1 x2 g) ∧ ((g.1 3 (Int32.toNatClampNeg x2)) = (g.1 2 (Int32.toNatClampNeg x1)) → J_X7_meets_70 x1 x2 post x1 x2 1 g))))))))))))))))))
abbrev rm_X7_meets : Room := { frames := 1, cells := 0, slots := 0, locals := 21 }
set_option maxHeartbeats 4000000 in
set_option maxRecDepth 100000 in
theorem c_X7_meets (l : Launch) (D : va_G) (cs az a : Nat → Nat) (x1 : Int32) (x2 : Int32) (g : St) (post : St → Prop) (hv : V_X7_meets x1 x2 g post) : uMv l yX7_meets wsX7_meets rm_X7_meets D cs az (mW cs a) [.ref (a 0), .int x1, .int x2] g post := by
  refine u_ofV (cc := cX7_meets) (maxL := 4) (by decide) rfl (Nat.le_of_ble_eq_true rfl) ?_
  intro p e s m args below meth c F ls hC hr hk hl hE
  have hx := hC.1.1; have hb := hC.1.2.1; have hml := hC.1.2.2.1; have hts := hC.1.2.2.2.2
  have hown : s.vm.findClass RX7 = some m.cls := hC.1.2.2.2.1
  have hl : lv_has ls 4 [(0, .ref (a 0)), (1, .int x1), (2, .int x2)] := hl
  unfold V_X7_meets at hv
  have j_150 : ∀ (t0 : Int32) (g : St), J_X7_meets_150 x1 x2 post t0 g → ∀ (H : Heap) (locs : List Loc) (ls : Array Slot), uE D 16 mA (mO a) cs a F s g H locs → lv_has ls 4 [] → W p l e rm_X7_meets s m args below meth c H locs 0 0 (MQ below (va_Qv post (uB D (uW 16 mA (mO a) cs a)) F) args s 0 0 F) (F0 m 150 ls [.int t0, .ref (a 0)]) := by
    intro  t0 g  hv
    intro H locs ls hE hl
    unfold J_X7_meets_150 at hv
    refine G_callVv hC (c_X7_lose l D cs az a t0 g _ hv) (cwV 1 hts gX7_meets_X7_lose rfl rfl rfl (by decide +kernel) ⟨Nat.le_of_ble_eq_true rfl, Nat.le_of_ble_eq_true rfl⟩) f_model rfl rfl hl rfl (Nat.le_of_ble_eq_true rfl) dX7_meets_150 hE (fun g9 H locs hv hE => ?_)
    exact G_vret hC hr hk hE hv dX7_meets_153
  have j_70 : ∀ (v1 : Int32) (v2 : Int32) (t0 : Int32) (g : St), J_X7_meets_70 x1 x2 post v1 v2 t0 g → ∀ (H : Heap) (locs : List Loc) (ls : Array Slot), uE D 16 mA (mO a) cs a F s g H locs → lv_has ls 4 [(0, .ref (a 0)), (1, .int v1), (2, .int v2)] → W p l e rm_X7_meets s m args below meth c H locs 0 0 (MQ below (va_Qv post (uB D (uW 16 mA (mO a) cs a)) F) args s 0 0 F) (F0 m 70 ls [.int t0]) := by
    intro  v1 v2 t0 g  hv
    intro H locs ls hE hl
    unfold J_X7_meets_70 at hv
    refine lv_istore_n (lv' := [(3, .int t0), (0, .ref (a 0)), (1, .int v1), (2, .int v2)]) hx hb dX7_meets_70 rfl hl (by decide) rfl (fun ls hl => ?_)
    refine lv_iload_n hx hb dX7_meets_71 rfl (lv_at hl 0 rfl) ?_
    refine lv_if_eq (tgt := 90) hx hb dX7_meets_72 (by decide) (fun c => ?_) (fun c => ?_)
    · have hv := hv.1 c
      exact G_vret hC hr hk hE hv dX7_meets_90
    · have hv := hv.2 c
      refine lv_aload_n hx hb dX7_meets_75 rfl (lv_at hl 1 rfl) ?_
      refine G_get (v := .ref (a 1)) hC hE (fun _ h => List.mem_cons_of_mem _ (List.mem_append_left _ (List.mem_append_right _ h))) f_model rfl 0 (by decide) (hts (.fieldLink RX7 7 "SeedBattleModel" "player" "[I") (List.mem_of_getElem? (i := 3) rfl)) rfl dX7_meets_76 ?_
      refine lv_iload_n hx hb dX7_meets_79 rfl (lv_at hl 2 rfl) ?_
      refine G_iald hC hE f_m_player hv.1 dX7_meets_80 ?_
      have hv := hv.2
      refine lv_aload_n hx hb dX7_meets_81 rfl (lv_at hl 1 rfl) ?_
      refine G_get (v := .ref (a 1)) hC hE (fun _ h => List.mem_cons_of_mem _ (List.mem_append_left _ (List.mem_append_right _ h))) f_model rfl 0 (by decide) (hts (.fieldLink RX7 7 "SeedBattleModel" "player" "[I") (List.mem_of_getElem? (i := 3) rfl)) rfl dX7_meets_82 ?_
      refine lv_iload_n hx hb dX7_meets_85 rfl (lv_at hl 3 rfl) ?_
      refine G_iald hC hE f_m_player hv.1 dX7_meets_86 ?_
      have hv := hv.2
      refine lv_icmp_ne (tgt := 91) hx hb dX7_meets_87 (by decide) (fun c => ?_) (fun c => ?_)
      · have hv := hv.1 c
        refine lv_aload_n hx hb dX7_meets_91 rfl (lv_at hl 1 rfl) ?_
        refine lv_iload_n hx hb dX7_meets_92 rfl (lv_at hl 2 rfl) ?_
        refine G_callVi hC (c_X7_power l D cs az a v1 g _ hv) (cwV 1 hts gX7_meets_X7_power rfl rfl rfl (by decide +kernel) ⟨Nat.le_of_ble_eq_true rfl, Nat.le_of_ble_eq_true rfl⟩) f_model rfl rfl hl rfl (Nat.le_of_ble_eq_true rfl) dX7_meets_93 hE (fun r2 g1 H locs hv hE => ?_)
        refine lv_aload_n hx hb dX7_meets_96 rfl (lv_at hl 1 rfl) ?_
        refine lv_iload_n hx hb dX7_meets_97 rfl (lv_at hl 3 rfl) ?_
        refine G_callVi hC (c_X7_power l D cs az a v2 g1 _ hv) (cwV 1 hts gX7_meets_X7_power rfl rfl rfl (by decide +kernel) ⟨Nat.le_of_ble_eq_true rfl, Nat.le_of_ble_eq_true rfl⟩) f_model rfl rfl hl rfl (Nat.le_of_ble_eq_true rfl) dX7_meets_98 hE (fun r4 g3 H locs hv hE => ?_)
        refine lv_icmp_ne (tgt := 131) hx hb dX7_meets_101 (by decide) (fun c => ?_) (fun c => ?_)
        · have hv := hv.1 c
          refine lv_aload_n hx hb dX7_meets_131 rfl (lv_at hl 1 rfl) ?_
          refine lv_aload_n hx hb dX7_meets_132 rfl (lv_at hl 1 rfl) ?_
          refine lv_iload_n hx hb dX7_meets_133 rfl (lv_at hl 2 rfl) ?_
          refine G_callVi hC (c_X7_power l D cs az a v1 g3 _ hv) (cwV 1 hts gX7_meets_X7_power rfl rfl rfl (by decide +kernel) ⟨Nat.le_of_ble_eq_true rfl, Nat.le_of_ble_eq_true rfl⟩) f_model rfl rfl hl rfl (Nat.le_of_ble_eq_true rfl) dX7_meets_134 hE (fun r6 g5 H locs hv hE => ?_)
          refine lv_aload_n hx hb dX7_meets_137 rfl (lv_at hl 1 rfl) ?_
          refine lv_iload_n hx hb dX7_meets_138 rfl (lv_at hl 3 rfl) ?_
          refine G_callVi hC (c_X7_power l D cs az a v2 g5 _ hv) (cwV 1 hts gX7_meets_X7_power rfl rfl rfl (by decide +kernel) ⟨Nat.le_of_ble_eq_true rfl, Nat.le_of_ble_eq_true rfl⟩) f_model rfl rfl hl rfl (Nat.le_of_ble_eq_true rfl) dX7_meets_139 hE (fun r8 g7 H locs hv hE => ?_)
          refine lv_icmp_ge (tgt := 149) hx hb dX7_meets_142 (by decide) (fun c => ?_) (fun c => ?_)
          · have hv := hv.1 c
            refine lv_iload_n hx hb dX7_meets_149 rfl (lv_at hl 3 rfl) ?_
            exact j_150  _ _  hv _ _ _ hE (lv_sub hl [] rfl)
          · have hv := hv.2 c
            refine lv_iload_n hx hb dX7_meets_145 rfl (lv_at hl 2 rfl) ?_
            refine lv_goto (tgt := 150) hx hb dX7_meets_146 (by decide) ?_
            exact j_150  _ _  hv _ _ _ hE (lv_sub hl [] rfl)
        · have hv := hv.2 c
          refine lv_aload_n hx hb dX7_meets_104 rfl (lv_at hl 1 rfl) ?_
          refine G_get (v := .ref (a 3)) hC hE (fun _ h => List.mem_cons_of_mem _ (List.mem_append_left _ (List.mem_append_right _ h))) f_model rfl 2 (by decide) (hts (.fieldLink RX7 16 "SeedBattleModel" "wants" "[I") (List.mem_of_getElem? (i := 2) rfl)) rfl dX7_meets_105 ?_
          refine lv_iload_n hx hb dX7_meets_108 rfl (lv_at hl 2 rfl) ?_
          refine lv_aload_n hx hb dX7_meets_109 rfl (lv_at hl 1 rfl) ?_
          refine G_get (v := .ref (a 2)) hC hE (fun _ h => List.mem_cons_of_mem _ (List.mem_append_left _ (List.mem_append_right _ h))) f_model rfl 1 (by decide) (hts (.fieldLink RX7 13 "SeedBattleModel" "cell" "[I") (List.mem_of_getElem? (i := 1) rfl)) rfl dX7_meets_110 ?_
          refine lv_iload_n hx hb dX7_meets_113 rfl (lv_at hl 2 rfl) ?_
          refine G_iald hC hE f_m_cell hv.1 dX7_meets_114 ?_
          have hv := hv.2
          refine G_iast hC hE f_m_wants hv.1 dX7_meets_115 (fun H locs hE => ?_)
          have hv := hv.2
          refine lv_aload_n hx hb dX7_meets_116 rfl (lv_at hl 1 rfl) ?_
          refine G_get (v := .ref (a 3)) hC hE (fun _ h => List.mem_cons_of_mem _ (List.mem_append_left _ (List.mem_append_right _ h))) f_model rfl 2 (by decide) (hts (.fieldLink RX7 16 "SeedBattleModel" "wants" "[I") (List.mem_of_getElem? (i := 2) rfl)) rfl dX7_meets_117 ?_
          refine lv_iload_n hx hb dX7_meets_120 rfl (lv_at hl 3 rfl) ?_
          refine lv_aload_n hx hb dX7_meets_121 rfl (lv_at hl 1 rfl) ?_
          refine G_get (v := .ref (a 2)) hC hE (fun _ h => List.mem_cons_of_mem _ (List.mem_append_left _ (List.mem_append_right _ h))) f_model rfl 1 (by decide) (hts (.fieldLink RX7 13 "SeedBattleModel" "cell" "[I") (List.mem_of_getElem? (i := 1) rfl)) rfl dX7_meets_122 ?_
          refine lv_iload_n hx hb dX7_meets_125 rfl (lv_at hl 3 rfl) ?_
          refine G_iald hC hE f_m_cell hv.1 dX7_meets_126 ?_
          have hv := hv.2
          refine G_iast hC hE f_m_wants hv.1 dX7_meets_127 (fun H locs hE => ?_)
          have hv := hv.2
          refine lv_goto (tgt := 153) hx hb dX7_meets_128 (by decide) ?_
          exact G_vret hC hr hk hE hv dX7_meets_153
      · have hv := hv.2 c
        exact G_vret hC hr hk hE hv dX7_meets_90
  have j_69 : ∀ (v1 : Int32) (v2 : Int32) (g : St), J_X7_meets_69 x1 x2 post v1 v2 g → ∀ (H : Heap) (locs : List Loc) (ls : Array Slot), uE D 16 mA (mO a) cs a F s g H locs → lv_has ls 4 [(0, .ref (a 0)), (1, .int v1), (2, .int v2)] → W p l e rm_X7_meets s m args below meth c H locs 0 0 (MQ below (va_Qv post (uB D (uW 16 mA (mO a) cs a)) F) args s 0 0 F) (F0 m 69 ls []) := by
    intro  v1 v2 g  hv
    intro H locs ls hE hl
    unfold J_X7_meets_69 at hv
    refine lv_iconst (v := 0) hx hb dX7_meets_69 (by decide) ?_
    exact j_70  _ _ _ _  hv _ _ _ hE (lv_sub hl [0, 1, 2] rfl)
  refine lv_aload_n hx hb dX7_meets_0 rfl (lv_at hl 0 rfl) ?_
  refine G_get (v := .ref (a 2)) hC hE (fun _ h => List.mem_cons_of_mem _ (List.mem_append_left _ (List.mem_append_right _ h))) f_model rfl 1 (by decide) (hts (.fieldLink RX7 13 "SeedBattleModel" "cell" "[I") (List.mem_of_getElem? (i := 1) rfl)) rfl dX7_meets_1 ?_
  refine lv_iload_n hx hb dX7_meets_4 rfl (lv_at hl 1 rfl) ?_
  refine G_iald hC hE f_m_cell hv.1 dX7_meets_5 ?_
  have hv := hv.2
  refine lv_iconst (v := (-1)) hx hb dX7_meets_6 (by decide) ?_
  refine lv_icmp_eq (tgt := 69) hx hb dX7_meets_7 (by decide) (fun c => ?_) (fun c => ?_)
  · have hv := hv.1 c
    exact j_69  _ _ _  hv _ _ _ hE (lv_sub hl [0, 1, 2] rfl)
  · have hv := hv.2 c
    refine lv_aload_n hx hb dX7_meets_10 rfl (lv_at hl 0 rfl) ?_
    refine G_get (v := .ref (a 2)) hC hE (fun _ h => List.mem_cons_of_mem _ (List.mem_append_left _ (List.mem_append_right _ h))) f_model rfl 1 (by decide) (hts (.fieldLink RX7 13 "SeedBattleModel" "cell" "[I") (List.mem_of_getElem? (i := 1) rfl)) rfl dX7_meets_11 ?_
    refine lv_iload_n hx hb dX7_meets_14 rfl (lv_at hl 2 rfl) ?_
    refine G_iald hC hE f_m_cell hv.1 dX7_meets_15 ?_
    have hv := hv.2
    refine lv_iconst (v := (-1)) hx hb dX7_meets_16 (by decide) ?_
    refine lv_icmp_eq (tgt := 69) hx hb dX7_meets_17 (by decide) (fun c => ?_) (fun c => ?_)
    · have hv := hv.1 c
      exact j_69  _ _ _  hv _ _ _ hE (lv_sub hl [0, 1, 2] rfl)
    · have hv := hv.2 c
      refine lv_aload_n hx hb dX7_meets_20 rfl (lv_at hl 0 rfl) ?_
      refine G_get (v := .ref (a 2)) hC hE (fun _ h => List.mem_cons_of_mem _ (List.mem_append_left _ (List.mem_append_right _ h))) f_model rfl 1 (by decide) (hts (.fieldLink RX7 13 "SeedBattleModel" "cell" "[I") (List.mem_of_getElem? (i := 1) rfl)) rfl dX7_meets_21 ?_
      refine lv_iload_n hx hb dX7_meets_24 rfl (lv_at hl 1 rfl) ?_
      refine G_iald hC hE f_m_cell hv.1 dX7_meets_25 ?_
      have hv := hv.2
      refine lv_aload_n hx hb dX7_meets_26 rfl (lv_at hl 0 rfl) ?_
      refine G_get (v := .ref (a 2)) hC hE (fun _ h => List.mem_cons_of_mem _ (List.mem_append_left _ (List.mem_append_right _ h))) f_model rfl 1 (by decide) (hts (.fieldLink RX7 13 "SeedBattleModel" "cell" "[I") (List.mem_of_getElem? (i := 1) rfl)) rfl dX7_meets_27 ?_
      refine lv_iload_n hx hb dX7_meets_30 rfl (lv_at hl 2 rfl) ?_
      refine G_iald hC hE f_m_cell hv.1 dX7_meets_31 ?_
      have hv := hv.2
      refine lv_icmp_eq (tgt := 69) hx hb dX7_meets_32 (by decide) (fun c => ?_) (fun c => ?_)
      · have hv := hv.1 c
        exact j_69  _ _ _  hv _ _ _ hE (lv_sub hl [0, 1, 2] rfl)
      · have hv := hv.2 c
        refine lv_aload_n hx hb dX7_meets_35 rfl (lv_at hl 0 rfl) ?_
        refine G_get (v := .ref (a 3)) hC hE (fun _ h => List.mem_cons_of_mem _ (List.mem_append_left _ (List.mem_append_right _ h))) f_model rfl 2 (by decide) (hts (.fieldLink RX7 16 "SeedBattleModel" "wants" "[I") (List.mem_of_getElem? (i := 2) rfl)) rfl dX7_meets_36 ?_
        refine lv_iload_n hx hb dX7_meets_39 rfl (lv_at hl 1 rfl) ?_
        refine G_iald hC hE f_m_wants hv.1 dX7_meets_40 ?_
        have hv := hv.2
        refine lv_aload_n hx hb dX7_meets_41 rfl (lv_at hl 0 rfl) ?_
        refine G_get (v := .ref (a 2)) hC hE (fun _ h => List.mem_cons_of_mem _ (List.mem_append_left _ (List.mem_append_right _ h))) f_model rfl 1 (by decide) (hts (.fieldLink RX7 13 "SeedBattleModel" "cell" "[I") (List.mem_of_getElem? (i := 1) rfl)) rfl dX7_meets_42 ?_
        refine lv_iload_n hx hb dX7_meets_45 rfl (lv_at hl 2 rfl) ?_
        refine G_iald hC hE f_m_cell hv.1 dX7_meets_46 ?_
        have hv := hv.2
        refine lv_icmp_ne (tgt := 69) hx hb dX7_meets_47 (by decide) (fun c => ?_) (fun c => ?_)
        · have hv := hv.1 c
          exact j_69  _ _ _  hv _ _ _ hE (lv_sub hl [0, 1, 2] rfl)
        · have hv := hv.2 c
          refine lv_aload_n hx hb dX7_meets_50 rfl (lv_at hl 0 rfl) ?_
          refine G_get (v := .ref (a 3)) hC hE (fun _ h => List.mem_cons_of_mem _ (List.mem_append_left _ (List.mem_append_right _ h))) f_model rfl 2 (by decide) (hts (.fieldLink RX7 16 "SeedBattleModel" "wants" "[I") (List.mem_of_getElem? (i := 2) rfl)) rfl dX7_meets_51 ?_
          refine lv_iload_n hx hb dX7_meets_54 rfl (lv_at hl 2 rfl) ?_
          refine G_iald hC hE f_m_wants hv.1 dX7_meets_55 ?_
          have hv := hv.2
          refine lv_aload_n hx hb dX7_meets_56 rfl (lv_at hl 0 rfl) ?_
          refine G_get (v := .ref (a 2)) hC hE (fun _ h => List.mem_cons_of_mem _ (List.mem_append_left _ (List.mem_append_right _ h))) f_model rfl 1 (by decide) (hts (.fieldLink RX7 13 "SeedBattleModel" "cell" "[I") (List.mem_of_getElem? (i := 1) rfl)) rfl dX7_meets_57 ?_
          refine lv_iload_n hx hb dX7_meets_60 rfl (lv_at hl 1 rfl) ?_
          refine G_iald hC hE f_m_cell hv.1 dX7_meets_61 ?_
          have hv := hv.2
          refine lv_icmp_ne (tgt := 69) hx hb dX7_meets_62 (by decide) (fun c => ?_) (fun c => ?_)
          · have hv := hv.1 c
            exact j_69  _ _ _  hv _ _ _ hE (lv_sub hl [0, 1, 2] rfl)
          · have hv := hv.2 c
            refine lv_iconst (v := 1) hx hb dX7_meets_65 (by decide) ?_
            refine lv_goto (tgt := 70) hx hb dX7_meets_66 (by decide) ?_
            exact j_70  _ _ _ _  hv _ _ _ hE (lv_sub hl [0, 1, 2] rfl)
def J_X7_contested_36  (post : Int32 → St → Prop) (K2 : (Int32 × St) → Prop) (K12 : (Int32 × Int32 × Int32 × St) → Prop) (v1 : Int32) (v3 : Int32) (t0 : Int32) (t1 : Int32) (g : St) : Prop := K12 (v1, (t1 + t0), (v3 + 1), g)
def J_X7_contested_12  (post : Int32 → St → Prop) (K2 : (Int32 × St) → Prop) (K12 : (Int32 × Int32 × Int32 × St) → Prop) (v1 : Int32) (v2 : Int32) (v3 : Int32) (g : St) : Prop := (((g.2 2) ≤ v3 → ((v2 ≤ 1 → K2 ((v1 + 1), g)) ∧ (¬ v2 ≤ 1 → post v1 g))) ∧ (¬ (g.2 2) ≤ v3 → vp_in v3 24 ∧ (((¬ (g.1 3 (Int32.toNatClampNeg v3)) = v1 → J_X7_contested_36 post K2 K12 v1 v3 0 v2 g) ∧ ((g.1 3 (Int32.toNatClampNeg v3)) = v1 → J_X7_contested_36 post K2 K12 v1 v3 1 v2 g)))))
def J_X7_contested_2  (post : Int32 → St → Prop) (K2 : (Int32 × St) → Prop) (v1 : Int32) (g : St) : Prop := ((64 ≤ v1 → post (-1) g) ∧ (¬ 64 ≤ v1 → lpP (fun K12 (z : Int32 × Int32 × Int32 × St) => J_X7_contested_12 post K2 K12 z.1 z.2.1 z.2.2.1 z.2.2.2) (v1, 0, 0, g)))
def V_X7_contested  (g : St) (post : Int32 → St → Prop) : Prop := lpP (fun K2 (z : Int32 × St) => J_X7_contested_2 post K2 z.1 z.2) (0, g)
abbrev rm_X7_contested : Room := { frames := 0, cells := 0, slots := 0, locals := 0 }
set_option maxHeartbeats 4000000 in
set_option maxRecDepth 100000 in
theorem c_X7_contested (l : Launch) (D : va_G) (cs az a : Nat → Nat)  (g : St) (post : Int32 → St → Prop) (hv : V_X7_contested  g post) : uMi l yX7_contested wsX7_contested rm_X7_contested D cs az (mW cs a) [.ref (a 0)] g post := by
  refine u_ofI (cc := cX7_contested) (maxL := 4) (by decide) rfl (Nat.le_of_ble_eq_true rfl) ?_
  intro p e s m args below meth c F ls hC hr hk hl hE
  have hx := hC.1.1; have hb := hC.1.2.1; have hml := hC.1.2.2.1; have hts := hC.1.2.2.2.2
  have hown : s.vm.findClass RX7 = some m.cls := hC.1.2.2.2.1
  have hl : lv_has ls 4 [(0, .ref (a 0))] := hl
  unfold V_X7_contested at hv
  have j_36 : ∀ (K2 : (Int32 × St) → Prop), (∀ (v1 : Int32) (g : St), K2 (v1, g) → ∀ (H : Heap) (locs : List Loc) (ls : Array Slot), uE D 16 mA (mO a) cs a F s g H locs → lv_has ls 4 [(0, .ref (a 0)), (1, .int v1)] → W p l e rm_X7_contested s m args below meth c H locs 0 0 (MQ below (va_Qi post (uB D (uW 16 mA (mO a) cs a)) F) args s 0 0 F) (F0 m 2 ls [])) → ∀ (K12 : (Int32 × Int32 × Int32 × St) → Prop), (∀ (v1 : Int32) (v2 : Int32) (v3 : Int32) (g : St), K12 (v1, v2, v3, g) → ∀ (H : Heap) (locs : List Loc) (ls : Array Slot), uE D 16 mA (mO a) cs a F s g H locs → lv_has ls 4 [(0, .ref (a 0)), (1, .int v1), (2, .int v2), (3, .int v3)] → W p l e rm_X7_contested s m args below meth c H locs 0 0 (MQ below (va_Qi post (uB D (uW 16 mA (mO a) cs a)) F) args s 0 0 F) (F0 m 12 ls [])) → ∀ (v1 : Int32) (v3 : Int32) (t0 : Int32) (t1 : Int32) (g : St), J_X7_contested_36 post K2 K12 v1 v3 t0 t1 g → ∀ (H : Heap) (locs : List Loc) (ls : Array Slot), uE D 16 mA (mO a) cs a F s g H locs → lv_has ls 4 [(0, .ref (a 0)), (1, .int v1), (3, .int v3)] → W p l e rm_X7_contested s m args below meth c H locs 0 0 (MQ below (va_Qi post (uB D (uW 16 mA (mO a) cs a)) F) args s 0 0 F) (F0 m 36 ls [.int t0, .int t1]) := by
    intro K2 hK2 K12 hK12 v1 v3 t0 t1 g  hv
    intro H locs ls hE hl
    unfold J_X7_contested_36 at hv
    refine lv_iadd hx hb dX7_contested_36 ?_
    refine lv_istore_n (lv' := [(2, .int (t1 + t0)), (0, .ref (a 0)), (1, .int v1), (3, .int v3)]) hx hb dX7_contested_37 rfl hl (by decide) rfl (fun ls hl => ?_)
    refine lv_iinc (v := (v3 + 1)) (lv' := [(3, .int (v3 + 1)), (2, .int (t1 + t0)), (0, .ref (a 0)), (1, .int v1)]) hx hb dX7_contested_38 hl (k := 3) rfl rfl (by decide) rfl (fun ls hl => ?_)
    refine lv_goto (tgt := 12) hx hb dX7_contested_41 (by decide) ?_
    exact hK12 _ _ _ _  hv _ _ _ hE (lv_sub hl [2, 3, 1, 0] rfl)
  have j_12 : ∀ (K2 : (Int32 × St) → Prop), (∀ (v1 : Int32) (g : St), K2 (v1, g) → ∀ (H : Heap) (locs : List Loc) (ls : Array Slot), uE D 16 mA (mO a) cs a F s g H locs → lv_has ls 4 [(0, .ref (a 0)), (1, .int v1)] → W p l e rm_X7_contested s m args below meth c H locs 0 0 (MQ below (va_Qi post (uB D (uW 16 mA (mO a) cs a)) F) args s 0 0 F) (F0 m 2 ls [])) → ∀ (v1 : Int32) (v2 : Int32) (v3 : Int32) (g : St), lpP (fun K12 (z : Int32 × Int32 × Int32 × St) => J_X7_contested_12 post K2 K12 z.1 z.2.1 z.2.2.1 z.2.2.2) (v1, v2, v3, g) → ∀ (H : Heap) (locs : List Loc) (ls : Array Slot), uE D 16 mA (mO a) cs a F s g H locs → lv_has ls 4 [(0, .ref (a 0)), (1, .int v1), (2, .int v2), (3, .int v3)] → W p l e rm_X7_contested s m args below meth c H locs 0 0 (MQ below (va_Qi post (uB D (uW 16 mA (mO a) cs a)) F) args s 0 0 F) (F0 m 12 ls []) := by
    intro K2 hK2 v1 v2 v3 g  hv
    obtain ⟨nn, hv⟩ := hv
    induction nn generalizing v1 v2 v3 g with
    | zero => exact False.elim hv
    | succ nn hK12 =>
      intro H locs ls hE hl
      have hv : J_X7_contested_12 post K2 (itP _ nn) v1 v2 v3 g := hv
      unfold J_X7_contested_12 at hv
      refine lv_iload_n hx hb dX7_contested_12 rfl (lv_at hl 3 rfl) ?_
      refine lv_aload_n hx hb dX7_contested_13 rfl (lv_at hl 0 rfl) ?_
      refine G_get (v := .int (g.2 2)) hC hE (fun _ h => List.mem_cons_of_mem _ (List.mem_append_left _ (List.mem_append_right _ h))) f_model rfl 17 (by decide) (hts (.fieldLink RX7 65 "SeedBattleModel" "units" "I") (List.mem_of_getElem? (i := 1) rfl)) rfl dX7_contested_14 ?_
      refine lv_icmp_ge (tgt := 44) hx hb dX7_contested_17 (by decide) (fun c => ?_) (fun c => ?_)
      · have hv := hv.1 c
        refine lv_iload_n hx hb dX7_contested_44 rfl (lv_at hl 2 rfl) ?_
        refine lv_iconst (v := 1) hx hb dX7_contested_45 (by decide) ?_
        refine lv_icmp_le (tgt := 51) hx hb dX7_contested_46 (by decide) (fun c => ?_) (fun c => ?_)
        · have hv := hv.1 c
          refine lv_iinc (v := (v1 + 1)) (lv' := [(1, .int (v1 + 1)), (0, .ref (a 0)), (2, .int v2), (3, .int v3)]) hx hb dX7_contested_51 hl (k := 1) rfl rfl (by decide) rfl (fun ls hl => ?_)
          refine lv_goto (tgt := 2) hx hb dX7_contested_54 (by decide) ?_
          exact hK2 _ _  hv _ _ _ hE (lv_sub hl [1, 0] rfl)
        · have hv := hv.2 c
          refine lv_iload_n hx hb dX7_contested_49 rfl (lv_at hl 1 rfl) ?_
          exact G_iret hC hr hk hE hv dX7_contested_50
      · have hv := hv.2 c
        refine lv_iload_n hx hb dX7_contested_20 rfl (lv_at hl 2 rfl) ?_
        refine lv_aload_n hx hb dX7_contested_21 rfl (lv_at hl 0 rfl) ?_
        refine G_get (v := .ref (a 3)) hC hE (fun _ h => List.mem_cons_of_mem _ (List.mem_append_left _ (List.mem_append_right _ h))) f_model rfl 2 (by decide) (hts (.fieldLink RX7 16 "SeedBattleModel" "wants" "[I") (List.mem_of_getElem? (i := 2) rfl)) rfl dX7_contested_22 ?_
        refine lv_iload_n hx hb dX7_contested_25 rfl (lv_at hl 3 rfl) ?_
        refine G_iald hC hE f_m_wants hv.1 dX7_contested_26 ?_
        have hv := hv.2
        refine lv_iload_n hx hb dX7_contested_27 rfl (lv_at hl 1 rfl) ?_
        refine lv_icmp_ne (tgt := 35) hx hb dX7_contested_28 (by decide) (fun c => ?_) (fun c => ?_)
        · have hv := hv.1 c
          refine lv_iconst (v := 0) hx hb dX7_contested_35 (by decide) ?_
          exact j_36 _ hK2 _ hK12 _ _ _ _ _  hv _ _ _ hE (lv_sub hl [0, 1, 3] rfl)
        · have hv := hv.2 c
          refine lv_iconst (v := 1) hx hb dX7_contested_31 (by decide) ?_
          refine lv_goto (tgt := 36) hx hb dX7_contested_32 (by decide) ?_
          exact j_36 _ hK2 _ hK12 _ _ _ _ _  hv _ _ _ hE (lv_sub hl [0, 1, 3] rfl)
  have j_2 : ∀ (v1 : Int32) (g : St), lpP (fun K2 (z : Int32 × St) => J_X7_contested_2 post K2 z.1 z.2) (v1, g) → ∀ (H : Heap) (locs : List Loc) (ls : Array Slot), uE D 16 mA (mO a) cs a F s g H locs → lv_has ls 4 [(0, .ref (a 0)), (1, .int v1)] → W p l e rm_X7_contested s m args below meth c H locs 0 0 (MQ below (va_Qi post (uB D (uW 16 mA (mO a) cs a)) F) args s 0 0 F) (F0 m 2 ls []) := by
    intro  v1 g  hv
    obtain ⟨nn, hv⟩ := hv
    induction nn generalizing v1 g with
    | zero => exact False.elim hv
    | succ nn hK2 =>
      intro H locs ls hE hl
      have hv : J_X7_contested_2 post (itP _ nn) v1 g := hv
      unfold J_X7_contested_2 at hv
      refine lv_iload_n hx hb dX7_contested_2 rfl (lv_at hl 1 rfl) ?_
      refine lv_bipush (v := 64) hx hb dX7_contested_3 (by decide) ?_
      refine lv_icmp_ge (tgt := 57) hx hb dX7_contested_5 (by decide) (fun c => ?_) (fun c => ?_)
      · have hv := hv.1 c
        refine lv_iconst (v := (-1)) hx hb dX7_contested_57 (by decide) ?_
        exact G_iret hC hr hk hE hv dX7_contested_58
      · have hv := hv.2 c
        refine lv_iconst (v := 0) hx hb dX7_contested_8 (by decide) ?_
        refine lv_istore_n (lv' := [(2, .int 0), (0, .ref (a 0)), (1, .int v1)]) hx hb dX7_contested_9 rfl hl (by decide) rfl (fun ls hl => ?_)
        refine lv_iconst (v := 0) hx hb dX7_contested_10 (by decide) ?_
        refine lv_istore_n (lv' := [(3, .int 0), (2, .int 0), (0, .ref (a 0)), (1, .int v1)]) hx hb dX7_contested_11 rfl hl (by decide) rfl (fun ls hl => ?_)
        exact j_12 _ hK2 _ _ _ _  hv _ _ _ hE (lv_sub hl [2, 3, 1, 0] rfl)
  refine lv_iconst (v := 0) hx hb dX7_contested_0 (by decide) ?_
  refine lv_istore_n (lv' := [(1, .int 0), (0, .ref (a 0))]) hx hb dX7_contested_1 rfl hl (by decide) rfl (fun ls hl => ?_)
  exact j_2  _ _  hv _ _ _ hE (lv_sub hl [1, 0] rfl)
def J_X7_powerAt_47 (x1 : Int32) (x2 : Int32) (post : Int32 → St → Prop) (K5 : (Int32 × Int32 × Int32 × Int32 × St) → Prop) (v1 : Int32) (v2 : Int32) (v4 : Int32) (t0 : Int32) (t1 : Int32) (g : St) : Prop := K5 (v1, v2, (t1 + t0), (v4 + 1), g)
def J_X7_powerAt_46 (x1 : Int32) (x2 : Int32) (post : Int32 → St → Prop) (K5 : (Int32 × Int32 × Int32 × Int32 × St) → Prop) (v1 : Int32) (v2 : Int32) (v4 : Int32) (t0 : Int32) (g : St) : Prop := J_X7_powerAt_47 x1 x2 post K5 v1 v2 v4 0 t0 g
def J_X7_powerAt_5 (x1 : Int32) (x2 : Int32) (post : Int32 → St → Prop) (K5 : (Int32 × Int32 × Int32 × Int32 × St) → Prop) (v1 : Int32) (v2 : Int32) (v3 : Int32) (v4 : Int32) (g : St) : Prop := (((g.2 2) ≤ v4 → post v3 g) ∧ (¬ (g.2 2) ≤ v4 → vp_in v4 24 ∧ (((¬ (g.1 3 (Int32.toNatClampNeg v4)) = v2 → J_X7_powerAt_46 x1 x2 post K5 v1 v2 v4 v3 g) ∧ ((g.1 3 (Int32.toNatClampNeg v4)) = v2 → vp_in v4 24 ∧ (((¬ (g.1 1 (Int32.toNatClampNeg v4)) = v1 → J_X7_powerAt_46 x1 x2 post K5 v1 v2 v4 v3 g) ∧ ((g.1 1 (Int32.toNatClampNeg v4)) = v1 → V_X7_power v4 g (fun r2 g1 => J_X7_powerAt_47 x1 x2 post K5 v1 v2 v4 r2 v3 g1)))))))))
def V_X7_powerAt (x1 : Int32) (x2 : Int32) (g : St) (post : Int32 → St → Prop) : Prop := lpP (fun K5 (z : Int32 × Int32 × Int32 × Int32 × St) => J_X7_powerAt_5 x1 x2 post K5 z.1 z.2.1 z.2.2.1 z.2.2.2.1 z.2.2.2.2) (x1, x2, 0, 0, g)
abbrev rm_X7_powerAt : Room := { frames := 1, cells := 0, slots := 0, locals := 21 }
set_option maxHeartbeats 4000000 in
set_option maxRecDepth 100000 in
theorem c_X7_powerAt (l : Launch) (D : va_G) (cs az a : Nat → Nat) (x1 : Int32) (x2 : Int32) (g : St) (post : Int32 → St → Prop) (hv : V_X7_powerAt x1 x2 g post) : uMi l yX7_powerAt wsX7_powerAt rm_X7_powerAt D cs az (mW cs a) [.ref (a 0), .int x1, .int x2] g post := by
  refine u_ofI (cc := cX7_powerAt) (maxL := 5) (by decide) rfl (Nat.le_of_ble_eq_true rfl) ?_
  intro p e s m args below meth c F ls hC hr hk hl hE
  have hx := hC.1.1; have hb := hC.1.2.1; have hml := hC.1.2.2.1; have hts := hC.1.2.2.2.2
  have hown : s.vm.findClass RX7 = some m.cls := hC.1.2.2.2.1
  have hl : lv_has ls 5 [(0, .ref (a 0)), (1, .int x1), (2, .int x2)] := hl
  unfold V_X7_powerAt at hv
  have j_47 : ∀ (K5 : (Int32 × Int32 × Int32 × Int32 × St) → Prop), (∀ (v1 : Int32) (v2 : Int32) (v3 : Int32) (v4 : Int32) (g : St), K5 (v1, v2, v3, v4, g) → ∀ (H : Heap) (locs : List Loc) (ls : Array Slot), uE D 16 mA (mO a) cs a F s g H locs → lv_has ls 5 [(0, .ref (a 0)), (1, .int v1), (2, .int v2), (3, .int v3), (4, .int v4)] → W p l e rm_X7_powerAt s m args below meth c H locs 0 0 (MQ below (va_Qi post (uB D (uW 16 mA (mO a) cs a)) F) args s 0 0 F) (F0 m 5 ls [])) → ∀ (v1 : Int32) (v2 : Int32) (v4 : Int32) (t0 : Int32) (t1 : Int32) (g : St), J_X7_powerAt_47 x1 x2 post K5 v1 v2 v4 t0 t1 g → ∀ (H : Heap) (locs : List Loc) (ls : Array Slot), uE D 16 mA (mO a) cs a F s g H locs → lv_has ls 5 [(0, .ref (a 0)), (1, .int v1), (2, .int v2), (4, .int v4)] → W p l e rm_X7_powerAt s m args below meth c H locs 0 0 (MQ below (va_Qi post (uB D (uW 16 mA (mO a) cs a)) F) args s 0 0 F) (F0 m 47 ls [.int t0, .int t1]) := by
    intro K5 hK5 v1 v2 v4 t0 t1 g  hv
    intro H locs ls hE hl
    unfold J_X7_powerAt_47 at hv
    refine lv_iadd hx hb dX7_powerAt_47 ?_
    refine lv_istore_n (lv' := [(3, .int (t1 + t0)), (0, .ref (a 0)), (1, .int v1), (2, .int v2), (4, .int v4)]) hx hb dX7_powerAt_48 rfl hl (by decide) rfl (fun ls hl => ?_)
    refine lv_iinc (v := (v4 + 1)) (lv' := [(4, .int (v4 + 1)), (3, .int (t1 + t0)), (0, .ref (a 0)), (1, .int v1), (2, .int v2)]) hx hb dX7_powerAt_49 hl (k := 4) rfl rfl (by decide) rfl (fun ls hl => ?_)
    refine lv_goto (tgt := 5) hx hb dX7_powerAt_52 (by decide) ?_
    exact hK5 _ _ _ _ _  hv _ _ _ hE (lv_sub hl [2, 3, 4, 1, 0] rfl)
  have j_46 : ∀ (K5 : (Int32 × Int32 × Int32 × Int32 × St) → Prop), (∀ (v1 : Int32) (v2 : Int32) (v3 : Int32) (v4 : Int32) (g : St), K5 (v1, v2, v3, v4, g) → ∀ (H : Heap) (locs : List Loc) (ls : Array Slot), uE D 16 mA (mO a) cs a F s g H locs → lv_has ls 5 [(0, .ref (a 0)), (1, .int v1), (2, .int v2), (3, .int v3), (4, .int v4)] → W p l e rm_X7_powerAt s m args below meth c H locs 0 0 (MQ below (va_Qi post (uB D (uW 16 mA (mO a) cs a)) F) args s 0 0 F) (F0 m 5 ls [])) → ∀ (v1 : Int32) (v2 : Int32) (v4 : Int32) (t0 : Int32) (g : St), J_X7_powerAt_46 x1 x2 post K5 v1 v2 v4 t0 g → ∀ (H : Heap) (locs : List Loc) (ls : Array Slot), uE D 16 mA (mO a) cs a F s g H locs → lv_has ls 5 [(0, .ref (a 0)), (1, .int v1), (2, .int v2), (4, .int v4)] → W p l e rm_X7_powerAt s m args below meth c H locs 0 0 (MQ below (va_Qi post (uB D (uW 16 mA (mO a) cs a)) F) args s 0 0 F) (F0 m 46 ls [.int t0]) := by
    intro K5 hK5 v1 v2 v4 t0 g  hv
    intro H locs ls hE hl
    unfold J_X7_powerAt_46 at hv
    refine lv_iconst (v := 0) hx hb dX7_powerAt_46 (by decide) ?_
    exact j_47 _ hK5 _ _ _ _ _ _  hv _ _ _ hE (lv_sub hl [0, 1, 2, 3] rfl)
  have j_5 : ∀ (v1 : Int32) (v2 : Int32) (v3 : Int32) (v4 : Int32) (g : St), lpP (fun K5 (z : Int32 × Int32 × Int32 × Int32 × St) => J_X7_powerAt_5 x1 x2 post K5 z.1 z.2.1 z.2.2.1 z.2.2.2.1 z.2.2.2.2) (v1, v2, v3, v4, g) → ∀ (H : Heap) (locs : List Loc) (ls : Array Slot), uE D 16 mA (mO a) cs a F s g H locs → lv_has ls 5 [(0, .ref (a 0)), (1, .int v1), (2, .int v2), (3, .int v3), (4, .int v4)] → W p l e rm_X7_powerAt s m args below meth c H locs 0 0 (MQ below (va_Qi post (uB D (uW 16 mA (mO a) cs a)) F) args s 0 0 F) (F0 m 5 ls []) := by
    intro  v1 v2 v3 v4 g  hv
    obtain ⟨nn, hv⟩ := hv
    induction nn generalizing v1 v2 v3 v4 g with
    | zero => exact False.elim hv
    | succ nn hK5 =>
      intro H locs ls hE hl
      have hv : J_X7_powerAt_5 x1 x2 post (itP _ nn) v1 v2 v3 v4 g := hv
      unfold J_X7_powerAt_5 at hv
      refine lv_iload hx hb dX7_powerAt_5 (lv_at hl 4 rfl) ?_
      refine lv_aload_n hx hb dX7_powerAt_7 rfl (lv_at hl 0 rfl) ?_
      refine G_get (v := .int (g.2 2)) hC hE (fun _ h => List.mem_cons_of_mem _ (List.mem_append_left _ (List.mem_append_right _ h))) f_model rfl 17 (by decide) (hts (.fieldLink RX7 65 "SeedBattleModel" "units" "I") (List.mem_of_getElem? (i := 1) rfl)) rfl dX7_powerAt_8 ?_
      refine lv_icmp_ge (tgt := 55) hx hb dX7_powerAt_11 (by decide) (fun c => ?_) (fun c => ?_)
      · have hv := hv.1 c
        refine lv_iload_n hx hb dX7_powerAt_55 rfl (lv_at hl 3 rfl) ?_
        exact G_iret hC hr hk hE hv dX7_powerAt_56
      · have hv := hv.2 c
        refine lv_iload_n hx hb dX7_powerAt_14 rfl (lv_at hl 3 rfl) ?_
        refine lv_aload_n hx hb dX7_powerAt_15 rfl (lv_at hl 0 rfl) ?_
        refine G_get (v := .ref (a 3)) hC hE (fun _ h => List.mem_cons_of_mem _ (List.mem_append_left _ (List.mem_append_right _ h))) f_model rfl 2 (by decide) (hts (.fieldLink RX7 16 "SeedBattleModel" "wants" "[I") (List.mem_of_getElem? (i := 2) rfl)) rfl dX7_powerAt_16 ?_
        refine lv_iload hx hb dX7_powerAt_19 (lv_at hl 4 rfl) ?_
        refine G_iald hC hE f_m_wants hv.1 dX7_powerAt_21 ?_
        have hv := hv.2
        refine lv_iload_n hx hb dX7_powerAt_22 rfl (lv_at hl 2 rfl) ?_
        refine lv_icmp_ne (tgt := 46) hx hb dX7_powerAt_23 (by decide) (fun c => ?_) (fun c => ?_)
        · have hv := hv.1 c
          exact j_46 _ hK5 _ _ _ _ _  hv _ _ _ hE (lv_sub hl [0, 1, 2, 4] rfl)
        · have hv := hv.2 c
          refine lv_aload_n hx hb dX7_powerAt_26 rfl (lv_at hl 0 rfl) ?_
          refine G_get (v := .ref (a 1)) hC hE (fun _ h => List.mem_cons_of_mem _ (List.mem_append_left _ (List.mem_append_right _ h))) f_model rfl 0 (by decide) (hts (.fieldLink RX7 7 "SeedBattleModel" "player" "[I") (List.mem_of_getElem? (i := 3) rfl)) rfl dX7_powerAt_27 ?_
          refine lv_iload hx hb dX7_powerAt_30 (lv_at hl 4 rfl) ?_
          refine G_iald hC hE f_m_player hv.1 dX7_powerAt_32 ?_
          have hv := hv.2
          refine lv_iload_n hx hb dX7_powerAt_33 rfl (lv_at hl 1 rfl) ?_
          refine lv_icmp_ne (tgt := 46) hx hb dX7_powerAt_34 (by decide) (fun c => ?_) (fun c => ?_)
          · have hv := hv.1 c
            exact j_46 _ hK5 _ _ _ _ _  hv _ _ _ hE (lv_sub hl [0, 1, 2, 4] rfl)
          · have hv := hv.2 c
            refine lv_aload_n hx hb dX7_powerAt_37 rfl (lv_at hl 0 rfl) ?_
            refine lv_iload hx hb dX7_powerAt_38 (lv_at hl 4 rfl) ?_
            refine G_callVi hC (c_X7_power l D cs az a v4 g _ hv) (cwV 1 hts gX7_powerAt_X7_power rfl rfl rfl (by decide +kernel) ⟨Nat.le_of_ble_eq_true rfl, Nat.le_of_ble_eq_true rfl⟩) f_model rfl rfl hl rfl (Nat.le_of_ble_eq_true rfl) dX7_powerAt_40 hE (fun r2 g1 H locs hv hE => ?_)
            refine lv_goto (tgt := 47) hx hb dX7_powerAt_43 (by decide) ?_
            exact j_47 _ hK5 _ _ _ _ _ _  hv _ _ _ hE (lv_sub hl [0, 1, 2, 4] rfl)
  refine lv_iconst (v := 0) hx hb dX7_powerAt_0 (by decide) ?_
  refine lv_istore_n (lv' := [(3, .int 0), (0, .ref (a 0)), (1, .int x1), (2, .int x2)]) hx hb dX7_powerAt_1 rfl hl (by decide) rfl (fun ls hl => ?_)
  refine lv_iconst (v := 0) hx hb dX7_powerAt_2 (by decide) ?_
  refine lv_istore (lv' := [(4, .int 0), (3, .int 0), (0, .ref (a 0)), (1, .int x1), (2, .int x2)]) hx hb dX7_powerAt_3 hl (by decide) rfl (fun ls hl => ?_)
  exact j_5  _ _ _ _ _  hv _ _ _ hE (lv_sub hl [2, 3, 4, 1, 0] rfl)
def J_X7_strongest_59 (x1 : Int32) (post : Int32 → St → Prop) (K2 : (Int32 × Int32 × St) → Prop) (K25 : (Int32 × Int32 × Int32 × Int32 × St) → Prop) (v1 : Int32) (v2 : Int32) (v4 : Int32) (t0 : Int32) (t1 : Int32) (g : St) : Prop := K25 (v1, v2, (t1 &&& t0), (v4 + 1), g)
def J_X7_strongest_54 (x1 : Int32) (post : Int32 → St → Prop) (K2 : (Int32 × Int32 × St) → Prop) (K25 : (Int32 × Int32 × Int32 × Int32 × St) → Prop) (v1 : Int32) (v2 : Int32) (v4 : Int32) (t0 : Int32) (g : St) : Prop := J_X7_strongest_59 x1 post K2 K25 v1 v2 v4 1 t0 g
def J_X7_strongest_25 (x1 : Int32) (post : Int32 → St → Prop) (K2 : (Int32 × Int32 × St) → Prop) (K25 : (Int32 × Int32 × Int32 × Int32 × St) → Prop) (v1 : Int32) (v2 : Int32) (v3 : Int32) (v4 : Int32) (g : St) : Prop := ((4 ≤ v4 → ((v3 = 0 → K2 (v1, (v2 + 1), g)) ∧ (¬ v3 = 0 → post v2 g))) ∧ (¬ 4 ≤ v4 → ((v4 = v2 → J_X7_strongest_54 x1 post K2 K25 v1 v2 v4 v3 g) ∧ (¬ v4 = v2 → V_X7_powerAt v2 v1 g (fun r4 g3 => V_X7_powerAt v4 v1 g3 (fun r6 g5 => ((r4 ≤ r6 → J_X7_strongest_59 x1 post K2 K25 v1 v2 v4 0 v3 g5) ∧ (¬ r4 ≤ r6 → J_X7_strongest_54 x1 post K2 K25 v1 v2 v4 v3 g5))))))))
def J_X7_strongest_21 (x1 : Int32) (post : Int32 → St → Prop) (K2 : (Int32 × Int32 × St) → Prop) (v1 : Int32) (v2 : Int32) (t0 : Int32) (g : St) : Prop := lpP (fun K25 (z : Int32 × Int32 × Int32 × Int32 × St) => J_X7_strongest_25 x1 post K2 K25 z.1 z.2.1 z.2.2.1 z.2.2.2.1 z.2.2.2.2) (v1, v2, t0, 0, g)
def J_X7_strongest_2 (x1 : Int32) (post : Int32 → St → Prop) (K2 : (Int32 × Int32 × St) → Prop) (v1 : Int32) (v2 : Int32) (g : St) : Prop := ((4 ≤ v2 → post (-1) g) ∧ (¬ 4 ≤ v2 → V_X7_powerAt v2 v1 g (fun r2 g1 => ((r2 ≤ 0 → J_X7_strongest_21 x1 post K2 v1 v2 0 g1) ∧ (¬ r2 ≤ 0 → J_X7_strongest_21 x1 post K2 v1 v2 1 g1)))))
def V_X7_strongest (x1 : Int32) (g : St) (post : Int32 → St → Prop) : Prop := lpP (fun K2 (z : Int32 × Int32 × St) => J_X7_strongest_2 x1 post K2 z.1 z.2.1 z.2.2) (x1, 0, g)
abbrev rm_X7_strongest : Room := { frames := 2, cells := 0, slots := 0, locals := 45 }
set_option maxHeartbeats 4000000 in
set_option maxRecDepth 100000 in
theorem c_X7_strongest (l : Launch) (D : va_G) (cs az a : Nat → Nat) (x1 : Int32) (g : St) (post : Int32 → St → Prop) (hv : V_X7_strongest x1 g post) : uMi l yX7_strongest wsX7_strongest rm_X7_strongest D cs az (mW cs a) [.ref (a 0), .int x1] g post := by
  refine u_ofI (cc := cX7_strongest) (maxL := 5) (by decide) rfl (Nat.le_of_ble_eq_true rfl) ?_
  intro p e s m args below meth c F ls hC hr hk hl hE
  have hx := hC.1.1; have hb := hC.1.2.1; have hml := hC.1.2.2.1; have hts := hC.1.2.2.2.2
  have hown : s.vm.findClass RX7 = some m.cls := hC.1.2.2.2.1
  have hl : lv_has ls 5 [(0, .ref (a 0)), (1, .int x1)] := hl
  unfold V_X7_strongest at hv
  have j_59 : ∀ (K2 : (Int32 × Int32 × St) → Prop), (∀ (v1 : Int32) (v2 : Int32) (g : St), K2 (v1, v2, g) → ∀ (H : Heap) (locs : List Loc) (ls : Array Slot), uE D 16 mA (mO a) cs a F s g H locs → lv_has ls 5 [(0, .ref (a 0)), (1, .int v1), (2, .int v2)] → W p l e rm_X7_strongest s m args below meth c H locs 0 0 (MQ below (va_Qi post (uB D (uW 16 mA (mO a) cs a)) F) args s 0 0 F) (F0 m 2 ls [])) → ∀ (K25 : (Int32 × Int32 × Int32 × Int32 × St) → Prop), (∀ (v1 : Int32) (v2 : Int32) (v3 : Int32) (v4 : Int32) (g : St), K25 (v1, v2, v3, v4, g) → ∀ (H : Heap) (locs : List Loc) (ls : Array Slot), uE D 16 mA (mO a) cs a F s g H locs → lv_has ls 5 [(0, .ref (a 0)), (1, .int v1), (2, .int v2), (3, .int v3), (4, .int v4)] → W p l e rm_X7_strongest s m args below meth c H locs 0 0 (MQ below (va_Qi post (uB D (uW 16 mA (mO a) cs a)) F) args s 0 0 F) (F0 m 25 ls [])) → ∀ (v1 : Int32) (v2 : Int32) (v4 : Int32) (t0 : Int32) (t1 : Int32) (g : St), J_X7_strongest_59 x1 post K2 K25 v1 v2 v4 t0 t1 g → ∀ (H : Heap) (locs : List Loc) (ls : Array Slot), uE D 16 mA (mO a) cs a F s g H locs → lv_has ls 5 [(0, .ref (a 0)), (1, .int v1), (2, .int v2), (4, .int v4)] → W p l e rm_X7_strongest s m args below meth c H locs 0 0 (MQ below (va_Qi post (uB D (uW 16 mA (mO a) cs a)) F) args s 0 0 F) (F0 m 59 ls [.int t0, .int t1]) := by
    intro K2 hK2 K25 hK25 v1 v2 v4 t0 t1 g  hv
    intro H locs ls hE hl
    unfold J_X7_strongest_59 at hv
    refine lv_iand hx hb dX7_strongest_59 ?_
    refine lv_istore_n (lv' := [(3, .int (t1 &&& t0)), (0, .ref (a 0)), (1, .int v1), (2, .int v2), (4, .int v4)]) hx hb dX7_strongest_60 rfl hl (by decide) rfl (fun ls hl => ?_)
    refine lv_iinc (v := (v4 + 1)) (lv' := [(4, .int (v4 + 1)), (3, .int (t1 &&& t0)), (0, .ref (a 0)), (1, .int v1), (2, .int v2)]) hx hb dX7_strongest_61 hl (k := 4) rfl rfl (by decide) rfl (fun ls hl => ?_)
    refine lv_goto (tgt := 25) hx hb dX7_strongest_64 (by decide) ?_
    exact hK25 _ _ _ _ _  hv _ _ _ hE (lv_sub hl [2, 3, 4, 1, 0] rfl)
  have j_54 : ∀ (K2 : (Int32 × Int32 × St) → Prop), (∀ (v1 : Int32) (v2 : Int32) (g : St), K2 (v1, v2, g) → ∀ (H : Heap) (locs : List Loc) (ls : Array Slot), uE D 16 mA (mO a) cs a F s g H locs → lv_has ls 5 [(0, .ref (a 0)), (1, .int v1), (2, .int v2)] → W p l e rm_X7_strongest s m args below meth c H locs 0 0 (MQ below (va_Qi post (uB D (uW 16 mA (mO a) cs a)) F) args s 0 0 F) (F0 m 2 ls [])) → ∀ (K25 : (Int32 × Int32 × Int32 × Int32 × St) → Prop), (∀ (v1 : Int32) (v2 : Int32) (v3 : Int32) (v4 : Int32) (g : St), K25 (v1, v2, v3, v4, g) → ∀ (H : Heap) (locs : List Loc) (ls : Array Slot), uE D 16 mA (mO a) cs a F s g H locs → lv_has ls 5 [(0, .ref (a 0)), (1, .int v1), (2, .int v2), (3, .int v3), (4, .int v4)] → W p l e rm_X7_strongest s m args below meth c H locs 0 0 (MQ below (va_Qi post (uB D (uW 16 mA (mO a) cs a)) F) args s 0 0 F) (F0 m 25 ls [])) → ∀ (v1 : Int32) (v2 : Int32) (v4 : Int32) (t0 : Int32) (g : St), J_X7_strongest_54 x1 post K2 K25 v1 v2 v4 t0 g → ∀ (H : Heap) (locs : List Loc) (ls : Array Slot), uE D 16 mA (mO a) cs a F s g H locs → lv_has ls 5 [(0, .ref (a 0)), (1, .int v1), (2, .int v2), (4, .int v4)] → W p l e rm_X7_strongest s m args below meth c H locs 0 0 (MQ below (va_Qi post (uB D (uW 16 mA (mO a) cs a)) F) args s 0 0 F) (F0 m 54 ls [.int t0]) := by
    intro K2 hK2 K25 hK25 v1 v2 v4 t0 g  hv
    intro H locs ls hE hl
    unfold J_X7_strongest_54 at hv
    refine lv_iconst (v := 1) hx hb dX7_strongest_54 (by decide) ?_
    refine lv_goto (tgt := 59) hx hb dX7_strongest_55 (by decide) ?_
    exact j_59 _ hK2 _ hK25 _ _ _ _ _ _  hv _ _ _ hE (lv_sub hl [0, 1, 2, 3] rfl)
  have j_25 : ∀ (K2 : (Int32 × Int32 × St) → Prop), (∀ (v1 : Int32) (v2 : Int32) (g : St), K2 (v1, v2, g) → ∀ (H : Heap) (locs : List Loc) (ls : Array Slot), uE D 16 mA (mO a) cs a F s g H locs → lv_has ls 5 [(0, .ref (a 0)), (1, .int v1), (2, .int v2)] → W p l e rm_X7_strongest s m args below meth c H locs 0 0 (MQ below (va_Qi post (uB D (uW 16 mA (mO a) cs a)) F) args s 0 0 F) (F0 m 2 ls [])) → ∀ (v1 : Int32) (v2 : Int32) (v3 : Int32) (v4 : Int32) (g : St), lpP (fun K25 (z : Int32 × Int32 × Int32 × Int32 × St) => J_X7_strongest_25 x1 post K2 K25 z.1 z.2.1 z.2.2.1 z.2.2.2.1 z.2.2.2.2) (v1, v2, v3, v4, g) → ∀ (H : Heap) (locs : List Loc) (ls : Array Slot), uE D 16 mA (mO a) cs a F s g H locs → lv_has ls 5 [(0, .ref (a 0)), (1, .int v1), (2, .int v2), (3, .int v3), (4, .int v4)] → W p l e rm_X7_strongest s m args below meth c H locs 0 0 (MQ below (va_Qi post (uB D (uW 16 mA (mO a) cs a)) F) args s 0 0 F) (F0 m 25 ls []) := by
    intro K2 hK2 v1 v2 v3 v4 g  hv
    obtain ⟨nn, hv⟩ := hv
    induction nn generalizing v1 v2 v3 v4 g with
    | zero => exact False.elim hv
    | succ nn hK25 =>
      intro H locs ls hE hl
      have hv : J_X7_strongest_25 x1 post K2 (itP _ nn) v1 v2 v3 v4 g := hv
      unfold J_X7_strongest_25 at hv
      refine lv_iload hx hb dX7_strongest_25 (lv_at hl 4 rfl) ?_
      refine lv_iconst (v := 4) hx hb dX7_strongest_27 (by decide) ?_
      refine lv_icmp_ge (tgt := 67) hx hb dX7_strongest_28 (by decide) (fun c => ?_) (fun c => ?_)
      · have hv := hv.1 c
        refine lv_iload_n hx hb dX7_strongest_67 rfl (lv_at hl 3 rfl) ?_
        refine lv_if_eq (tgt := 73) hx hb dX7_strongest_68 (by decide) (fun c => ?_) (fun c => ?_)
        · have hv := hv.1 c
          refine lv_iinc (v := (v2 + 1)) (lv' := [(2, .int (v2 + 1)), (0, .ref (a 0)), (1, .int v1), (3, .int v3), (4, .int v4)]) hx hb dX7_strongest_73 hl (k := 2) rfl rfl (by decide) rfl (fun ls hl => ?_)
          refine lv_goto (tgt := 2) hx hb dX7_strongest_76 (by decide) ?_
          exact hK2 _ _ _  hv _ _ _ hE (lv_sub hl [1, 2, 0] rfl)
        · have hv := hv.2 c
          refine lv_iload_n hx hb dX7_strongest_71 rfl (lv_at hl 2 rfl) ?_
          exact G_iret hC hr hk hE hv dX7_strongest_72
      · have hv := hv.2 c
        refine lv_iload_n hx hb dX7_strongest_31 rfl (lv_at hl 3 rfl) ?_
        refine lv_iload hx hb dX7_strongest_32 (lv_at hl 4 rfl) ?_
        refine lv_iload_n hx hb dX7_strongest_34 rfl (lv_at hl 2 rfl) ?_
        refine lv_icmp_eq (tgt := 54) hx hb dX7_strongest_35 (by decide) (fun c => ?_) (fun c => ?_)
        · have hv := hv.1 c
          exact j_54 _ hK2 _ hK25 _ _ _ _ _  hv _ _ _ hE (lv_sub hl [0, 1, 2, 4] rfl)
        · have hv := hv.2 c
          refine lv_aload_n hx hb dX7_strongest_38 rfl (lv_at hl 0 rfl) ?_
          refine lv_iload_n hx hb dX7_strongest_39 rfl (lv_at hl 2 rfl) ?_
          refine lv_iload_n hx hb dX7_strongest_40 rfl (lv_at hl 1 rfl) ?_
          refine G_callVi hC (c_X7_powerAt l D cs az a v2 v1 g _ hv) (cwV 2 hts gX7_strongest_X7_powerAt rfl rfl rfl (by decide +kernel) ⟨Nat.le_of_ble_eq_true rfl, Nat.le_of_ble_eq_true rfl⟩) f_model rfl rfl hl rfl (Nat.le_of_ble_eq_true rfl) dX7_strongest_41 hE (fun r4 g3 H locs hv hE => ?_)
          refine lv_aload_n hx hb dX7_strongest_44 rfl (lv_at hl 0 rfl) ?_
          refine lv_iload hx hb dX7_strongest_45 (lv_at hl 4 rfl) ?_
          refine lv_iload_n hx hb dX7_strongest_47 rfl (lv_at hl 1 rfl) ?_
          refine G_callVi hC (c_X7_powerAt l D cs az a v4 v1 g3 _ hv) (cwV 2 hts gX7_strongest_X7_powerAt rfl rfl rfl (by decide +kernel) ⟨Nat.le_of_ble_eq_true rfl, Nat.le_of_ble_eq_true rfl⟩) f_model rfl rfl hl rfl (Nat.le_of_ble_eq_true rfl) dX7_strongest_48 hE (fun r6 g5 H locs hv hE => ?_)
          refine lv_icmp_le (tgt := 58) hx hb dX7_strongest_51 (by decide) (fun c => ?_) (fun c => ?_)
          · have hv := hv.1 c
            refine lv_iconst (v := 0) hx hb dX7_strongest_58 (by decide) ?_
            exact j_59 _ hK2 _ hK25 _ _ _ _ _ _  hv _ _ _ hE (lv_sub hl [0, 1, 2, 4] rfl)
          · have hv := hv.2 c
            exact j_54 _ hK2 _ hK25 _ _ _ _ _  hv _ _ _ hE (lv_sub hl [0, 1, 2, 4] rfl)
  have j_21 : ∀ (K2 : (Int32 × Int32 × St) → Prop), (∀ (v1 : Int32) (v2 : Int32) (g : St), K2 (v1, v2, g) → ∀ (H : Heap) (locs : List Loc) (ls : Array Slot), uE D 16 mA (mO a) cs a F s g H locs → lv_has ls 5 [(0, .ref (a 0)), (1, .int v1), (2, .int v2)] → W p l e rm_X7_strongest s m args below meth c H locs 0 0 (MQ below (va_Qi post (uB D (uW 16 mA (mO a) cs a)) F) args s 0 0 F) (F0 m 2 ls [])) → ∀ (v1 : Int32) (v2 : Int32) (t0 : Int32) (g : St), J_X7_strongest_21 x1 post K2 v1 v2 t0 g → ∀ (H : Heap) (locs : List Loc) (ls : Array Slot), uE D 16 mA (mO a) cs a F s g H locs → lv_has ls 5 [(0, .ref (a 0)), (1, .int v1), (2, .int v2)] → W p l e rm_X7_strongest s m args below meth c H locs 0 0 (MQ below (va_Qi post (uB D (uW 16 mA (mO a) cs a)) F) args s 0 0 F) (F0 m 21 ls [.int t0]) := by
    intro K2 hK2 v1 v2 t0 g  hv
    intro H locs ls hE hl
    unfold J_X7_strongest_21 at hv
    refine lv_istore_n (lv' := [(3, .int t0), (0, .ref (a 0)), (1, .int v1), (2, .int v2)]) hx hb dX7_strongest_21 rfl hl (by decide) rfl (fun ls hl => ?_)
    refine lv_iconst (v := 0) hx hb dX7_strongest_22 (by decide) ?_
    refine lv_istore (lv' := [(4, .int 0), (3, .int t0), (0, .ref (a 0)), (1, .int v1), (2, .int v2)]) hx hb dX7_strongest_23 hl (by decide) rfl (fun ls hl => ?_)
    exact j_25 _ hK2 _ _ _ _ _  hv _ _ _ hE (lv_sub hl [2, 3, 4, 1, 0] rfl)
  have j_2 : ∀ (v1 : Int32) (v2 : Int32) (g : St), lpP (fun K2 (z : Int32 × Int32 × St) => J_X7_strongest_2 x1 post K2 z.1 z.2.1 z.2.2) (v1, v2, g) → ∀ (H : Heap) (locs : List Loc) (ls : Array Slot), uE D 16 mA (mO a) cs a F s g H locs → lv_has ls 5 [(0, .ref (a 0)), (1, .int v1), (2, .int v2)] → W p l e rm_X7_strongest s m args below meth c H locs 0 0 (MQ below (va_Qi post (uB D (uW 16 mA (mO a) cs a)) F) args s 0 0 F) (F0 m 2 ls []) := by
    intro  v1 v2 g  hv
    obtain ⟨nn, hv⟩ := hv
    induction nn generalizing v1 v2 g with
    | zero => exact False.elim hv
    | succ nn hK2 =>
      intro H locs ls hE hl
      have hv : J_X7_strongest_2 x1 post (itP _ nn) v1 v2 g := hv
      unfold J_X7_strongest_2 at hv
      refine lv_iload_n hx hb dX7_strongest_2 rfl (lv_at hl 2 rfl) ?_
      refine lv_iconst (v := 4) hx hb dX7_strongest_3 (by decide) ?_
      refine lv_icmp_ge (tgt := 79) hx hb dX7_strongest_4 (by decide) (fun c => ?_) (fun c => ?_)
      · have hv := hv.1 c
        refine lv_iconst (v := (-1)) hx hb dX7_strongest_79 (by decide) ?_
        exact G_iret hC hr hk hE hv dX7_strongest_80
      · have hv := hv.2 c
        refine lv_aload_n hx hb dX7_strongest_7 rfl (lv_at hl 0 rfl) ?_
        refine lv_iload_n hx hb dX7_strongest_8 rfl (lv_at hl 2 rfl) ?_
        refine lv_iload_n hx hb dX7_strongest_9 rfl (lv_at hl 1 rfl) ?_
        refine G_callVi hC (c_X7_powerAt l D cs az a v2 v1 g _ hv) (cwV 2 hts gX7_strongest_X7_powerAt rfl rfl rfl (by decide +kernel) ⟨Nat.le_of_ble_eq_true rfl, Nat.le_of_ble_eq_true rfl⟩) f_model rfl rfl hl rfl (Nat.le_of_ble_eq_true rfl) dX7_strongest_10 hE (fun r2 g1 H locs hv hE => ?_)
        refine lv_if_le (tgt := 20) hx hb dX7_strongest_13 (by decide) (fun c => ?_) (fun c => ?_)
        · have hv := hv.1 c
          refine lv_iconst (v := 0) hx hb dX7_strongest_20 (by decide) ?_
          exact j_21 _ hK2 _ _ _ _  hv _ _ _ hE (lv_sub hl [0, 1, 2] rfl)
        · have hv := hv.2 c
          refine lv_iconst (v := 1) hx hb dX7_strongest_16 (by decide) ?_
          refine lv_goto (tgt := 21) hx hb dX7_strongest_17 (by decide) ?_
          exact j_21 _ hK2 _ _ _ _  hv _ _ _ hE (lv_sub hl [0, 1, 2] rfl)
  refine lv_iconst (v := 0) hx hb dX7_strongest_0 (by decide) ?_
  refine lv_istore_n (lv' := [(2, .int 0), (0, .ref (a 0)), (1, .int x1)]) hx hb dX7_strongest_1 rfl hl (by decide) rfl (fun ls hl => ?_)
  exact j_2  _ _ _  hv _ _ _ hE (lv_sub hl [1, 2, 0] rfl)
def J_X7_solves_174 (x1 : Int32) (post : St → Prop) (K133 : (Int32 × Int32 × Int32 × St) → Prop) (v1 : Int32) (v4 : Int32) (v5 : Int32) (g : St) : Prop := K133 (v1, v4, (v5 + 1), g)
def J_X7_solves_133 (x1 : Int32) (post : St → Prop) (K133 : (Int32 × Int32 × Int32 × St) → Prop) (v1 : Int32) (v4 : Int32) (v5 : Int32) (g : St) : Prop := (((g.2 2) ≤ v5 → post g) ∧ (¬ (g.2 2) ≤ v5 → vp_in v5 24 ∧ (((¬ (g.1 3 (Int32.toNatClampNeg v5)) = v1 → J_X7_solves_174 x1 post K133 v1 v4 v5 g) ∧ ((g.1 3 (Int32.toNatClampNeg v5)) = v1 → ((v5 = v4 → J_X7_solves_174 x1 post K133 v1 v4 v5 g) ∧ (¬ v5 = v4 → vp_in v5 24 ∧ (vp_in v5 24 ∧ (J_X7_solves_174 x1 post K133 v1 v4 v5 (sA g 3 (upd (g.1 3) (Int32.toNatClampNeg v5) (g.1 2 (Int32.toNatClampNeg v5)))))))))))))
def J_X7_solves_124 (x1 : Int32) (post : St → Prop) (K88 : (Int32 × Int32 × Int32 × Int32 × Int32 × St) → Prop) (v1 : Int32) (v2 : Int32) (v3 : Int32) (v4 : Int32) (v5 : Int32) (g : St) : Prop := K88 (v1, v2, v3, v4, (v5 + (-1)), g)
def J_X7_solves_88 (x1 : Int32) (post : St → Prop) (K88 : (Int32 × Int32 × Int32 × Int32 × Int32 × St) → Prop) (v1 : Int32) (v2 : Int32) (v3 : Int32) (v4 : Int32) (v5 : Int32) (g : St) : Prop := ((v5 < 0 → lpP (fun K133 (z : Int32 × Int32 × Int32 × St) => J_X7_solves_133 x1 post K133 z.1 z.2.1 z.2.2.1 z.2.2.2) (v1, v4, 0, g)) ∧ (¬ v5 < 0 → ((¬ v2 = (-1) → J_X7_solves_124 x1 post K88 v1 v2 v3 v4 v5 g) ∧ (v2 = (-1) → vp_in v5 24 ∧ (((¬ (g.1 3 (Int32.toNatClampNeg v5)) = v1 → J_X7_solves_124 x1 post K88 v1 v2 v3 v4 v5 g) ∧ ((g.1 3 (Int32.toNatClampNeg v5)) = v1 → vp_in v5 24 ∧ (((¬ (g.1 1 (Int32.toNatClampNeg v5)) = v3 → J_X7_solves_124 x1 post K88 v1 v2 v3 v4 v5 g) ∧ ((g.1 1 (Int32.toNatClampNeg v5)) = v3 → J_X7_solves_124 x1 post K88 v1 v2 v3 v5 v5 g))))))))))
def J_X7_solves_80 (x1 : Int32) (post : St → Prop)  (v1 : Int32) (v2 : Int32) (v3 : Int32) (v4 : Int32) (g : St) : Prop := lpP (fun K88 (z : Int32 × Int32 × Int32 × Int32 × Int32 × St) => J_X7_solves_88 x1 post K88 z.1 z.2.1 z.2.2.1 z.2.2.2.1 z.2.2.2.2.1 z.2.2.2.2.2) (v1, v2, v3, v4, ((g.2 2) - 1), g)
def J_X7_solves_48 (x1 : Int32) (post : St → Prop) (K14 : (Int32 × Int32 × Int32 × Int32 × Int32 × St) → Prop) (v1 : Int32) (v2 : Int32) (v3 : Int32) (v4 : Int32) (v5 : Int32) (g : St) : Prop := K14 (v1, v2, v3, v4, (v5 + 1), g)
def J_X7_solves_14 (x1 : Int32) (post : St → Prop) (K14 : (Int32 × Int32 × Int32 × Int32 × Int32 × St) → Prop) (v1 : Int32) (v2 : Int32) (v3 : Int32) (v4 : Int32) (v5 : Int32) (g : St) : Prop := (((g.2 2) ≤ v5 → ((v2 = (-1) → J_X7_solves_80 x1 post v1 v2 v3 v4 g) ∧ (¬ v2 = (-1) → ((v3 = (-1) → J_X7_solves_80 x1 post v1 v2 v3 v4 g) ∧ (¬ v3 = (-1) → vp_in v2 24 ∧ (((v3 = (g.1 1 (Int32.toNatClampNeg v2)) → J_X7_solves_80 x1 post v1 v2 v3 v4 g) ∧ (¬ v3 = (g.1 1 (Int32.toNatClampNeg v2)) → V_X7_lose v2 g (fun g3 => post g3))))))))) ∧ (¬ (g.2 2) ≤ v5 → vp_in v5 24 ∧ (((¬ (g.1 2 (Int32.toNatClampNeg v5)) = v1 → J_X7_solves_48 x1 post K14 v1 v2 v3 v4 v5 g) ∧ ((g.1 2 (Int32.toNatClampNeg v5)) = v1 → vp_in v5 24 ∧ (((¬ (g.1 3 (Int32.toNatClampNeg v5)) = v1 → J_X7_solves_48 x1 post K14 v1 v2 v3 v4 v5 g) ∧ ((g.1 3 (Int32.toNatClampNeg v5)) = v1 → J_X7_solves_48 x1 post K14 v1 v5 v3 v4 v5 g))))))))
def V_X7_solves (x1 : Int32) (g : St) (post : St → Prop) : Prop := V_X7_strongest x1 g (fun r2 g1 => lpP (fun K14 (z : Int32 × Int32 × Int32 × Int32 × Int32 × St) => J_X7_solves_14 x1 post K14 z.1 z.2.1 z.2.2.1 z.2.2.2.1 z.2.2.2.2.1 z.2.2.2.2.2) (x1, (-1), r2, (-1), 0, g1))
abbrev rm_X7_solves : Room := { frames := 3, cells := 0, slots := 0, locals := 69 }
set_option maxHeartbeats 4000000 in
set_option maxRecDepth 100000 in
theorem c_X7_solves (l : Launch) (D : va_G) (cs az a : Nat → Nat) (x1 : Int32) (g : St) (post : St → Prop) (hv : V_X7_solves x1 g post) : uMv l yX7_solves wsX7_solves rm_X7_solves D cs az (mW cs a) [.ref (a 0), .int x1] g post := by
  refine u_ofV (cc := cX7_solves) (maxL := 6) (by decide) rfl (Nat.le_of_ble_eq_true rfl) ?_
  intro p e s m args below meth c F ls hC hr hk hl hE
  have hx := hC.1.1; have hb := hC.1.2.1; have hml := hC.1.2.2.1; have hts := hC.1.2.2.2.2
  have hown : s.vm.findClass RX7 = some m.cls := hC.1.2.2.2.1
  have hl : lv_has ls 6 [(0, .ref (a 0)), (1, .int x1)] := hl
  unfold V_X7_solves at hv
  have j_174 : ∀ (K133 : (Int32 × Int32 × Int32 × St) → Prop), (∀ (v1 : Int32) (v4 : Int32) (v5 : Int32) (g : St), K133 (v1, v4, v5, g) → ∀ (H : Heap) (locs : List Loc) (ls : Array Slot), uE D 16 mA (mO a) cs a F s g H locs → lv_has ls 6 [(0, .ref (a 0)), (1, .int v1), (4, .int v4), (5, .int v5)] → W p l e rm_X7_solves s m args below meth c H locs 0 0 (MQ below (va_Qv post (uB D (uW 16 mA (mO a) cs a)) F) args s 0 0 F) (F0 m 133 ls [])) → ∀ (v1 : Int32) (v4 : Int32) (v5 : Int32) (g : St), J_X7_solves_174 x1 post K133 v1 v4 v5 g → ∀ (H : Heap) (locs : List Loc) (ls : Array Slot), uE D 16 mA (mO a) cs a F s g H locs → lv_has ls 6 [(0, .ref (a 0)), (1, .int v1), (4, .int v4), (5, .int v5)] → W p l e rm_X7_solves s m args below meth c H locs 0 0 (MQ below (va_Qv post (uB D (uW 16 mA (mO a) cs a)) F) args s 0 0 F) (F0 m 174 ls []) := by
    intro K133 hK133 v1 v4 v5 g  hv
    intro H locs ls hE hl
    unfold J_X7_solves_174 at hv
    refine lv_iinc (v := (v5 + 1)) (lv' := [(5, .int (v5 + 1)), (0, .ref (a 0)), (1, .int v1), (4, .int v4)]) hx hb dX7_solves_174 hl (k := 3) rfl rfl (by decide) rfl (fun ls hl => ?_)
    refine lv_goto (tgt := 133) hx hb dX7_solves_177 (by decide) ?_
    exact hK133 _ _ _ _  hv _ _ _ hE (lv_sub hl [1, 2, 3, 0] rfl)
  have j_133 : ∀ (v1 : Int32) (v4 : Int32) (v5 : Int32) (g : St), lpP (fun K133 (z : Int32 × Int32 × Int32 × St) => J_X7_solves_133 x1 post K133 z.1 z.2.1 z.2.2.1 z.2.2.2) (v1, v4, v5, g) → ∀ (H : Heap) (locs : List Loc) (ls : Array Slot), uE D 16 mA (mO a) cs a F s g H locs → lv_has ls 6 [(0, .ref (a 0)), (1, .int v1), (4, .int v4), (5, .int v5)] → W p l e rm_X7_solves s m args below meth c H locs 0 0 (MQ below (va_Qv post (uB D (uW 16 mA (mO a) cs a)) F) args s 0 0 F) (F0 m 133 ls []) := by
    intro  v1 v4 v5 g  hv
    obtain ⟨nn, hv⟩ := hv
    induction nn generalizing v1 v4 v5 g with
    | zero => exact False.elim hv
    | succ nn hK133 =>
      intro H locs ls hE hl
      have hv : J_X7_solves_133 x1 post (itP _ nn) v1 v4 v5 g := hv
      unfold J_X7_solves_133 at hv
      refine lv_iload hx hb dX7_solves_133 (lv_at hl 3 rfl) ?_
      refine lv_aload_n hx hb dX7_solves_135 rfl (lv_at hl 0 rfl) ?_
      refine G_get (v := .int (g.2 2)) hC hE (fun _ h => List.mem_cons_of_mem _ (List.mem_append_left _ (List.mem_append_right _ h))) f_model rfl 17 (by decide) (hts (.fieldLink RX7 65 "SeedBattleModel" "units" "I") (List.mem_of_getElem? (i := 1) rfl)) rfl dX7_solves_136 ?_
      refine lv_icmp_ge (tgt := 180) hx hb dX7_solves_139 (by decide) (fun c => ?_) (fun c => ?_)
      · have hv := hv.1 c
        exact G_vret hC hr hk hE hv dX7_solves_180
      · have hv := hv.2 c
        refine lv_aload_n hx hb dX7_solves_142 rfl (lv_at hl 0 rfl) ?_
        refine G_get (v := .ref (a 3)) hC hE (fun _ h => List.mem_cons_of_mem _ (List.mem_append_left _ (List.mem_append_right _ h))) f_model rfl 2 (by decide) (hts (.fieldLink RX7 16 "SeedBattleModel" "wants" "[I") (List.mem_of_getElem? (i := 3) rfl)) rfl dX7_solves_143 ?_
        refine lv_iload hx hb dX7_solves_146 (lv_at hl 3 rfl) ?_
        refine G_iald hC hE f_m_wants hv.1 dX7_solves_148 ?_
        have hv := hv.2
        refine lv_iload_n hx hb dX7_solves_149 rfl (lv_at hl 1 rfl) ?_
        refine lv_icmp_ne (tgt := 174) hx hb dX7_solves_150 (by decide) (fun c => ?_) (fun c => ?_)
        · have hv := hv.1 c
          exact j_174 _ hK133 _ _ _ _  hv _ _ _ hE (lv_sub hl [0, 1, 2, 3] rfl)
        · have hv := hv.2 c
          refine lv_iload hx hb dX7_solves_153 (lv_at hl 3 rfl) ?_
          refine lv_iload hx hb dX7_solves_155 (lv_at hl 2 rfl) ?_
          refine lv_icmp_eq (tgt := 174) hx hb dX7_solves_157 (by decide) (fun c => ?_) (fun c => ?_)
          · have hv := hv.1 c
            exact j_174 _ hK133 _ _ _ _  hv _ _ _ hE (lv_sub hl [0, 1, 2, 3] rfl)
          · have hv := hv.2 c
            refine lv_aload_n hx hb dX7_solves_160 rfl (lv_at hl 0 rfl) ?_
            refine G_get (v := .ref (a 3)) hC hE (fun _ h => List.mem_cons_of_mem _ (List.mem_append_left _ (List.mem_append_right _ h))) f_model rfl 2 (by decide) (hts (.fieldLink RX7 16 "SeedBattleModel" "wants" "[I") (List.mem_of_getElem? (i := 3) rfl)) rfl dX7_solves_161 ?_
            refine lv_iload hx hb dX7_solves_164 (lv_at hl 3 rfl) ?_
            refine lv_aload_n hx hb dX7_solves_166 rfl (lv_at hl 0 rfl) ?_
            refine G_get (v := .ref (a 2)) hC hE (fun _ h => List.mem_cons_of_mem _ (List.mem_append_left _ (List.mem_append_right _ h))) f_model rfl 1 (by decide) (hts (.fieldLink RX7 13 "SeedBattleModel" "cell" "[I") (List.mem_of_getElem? (i := 2) rfl)) rfl dX7_solves_167 ?_
            refine lv_iload hx hb dX7_solves_170 (lv_at hl 3 rfl) ?_
            refine G_iald hC hE f_m_cell hv.1 dX7_solves_172 ?_
            have hv := hv.2
            refine G_iast hC hE f_m_wants hv.1 dX7_solves_173 (fun H locs hE => ?_)
            have hv := hv.2
            exact j_174 _ hK133 _ _ _ _  hv _ _ _ hE (lv_sub hl [0, 1, 2, 3] rfl)
  have j_124 : ∀ (K88 : (Int32 × Int32 × Int32 × Int32 × Int32 × St) → Prop), (∀ (v1 : Int32) (v2 : Int32) (v3 : Int32) (v4 : Int32) (v5 : Int32) (g : St), K88 (v1, v2, v3, v4, v5, g) → ∀ (H : Heap) (locs : List Loc) (ls : Array Slot), uE D 16 mA (mO a) cs a F s g H locs → lv_has ls 6 [(0, .ref (a 0)), (1, .int v1), (2, .int v2), (3, .int v3), (4, .int v4), (5, .int v5)] → W p l e rm_X7_solves s m args below meth c H locs 0 0 (MQ below (va_Qv post (uB D (uW 16 mA (mO a) cs a)) F) args s 0 0 F) (F0 m 88 ls [])) → ∀ (v1 : Int32) (v2 : Int32) (v3 : Int32) (v4 : Int32) (v5 : Int32) (g : St), J_X7_solves_124 x1 post K88 v1 v2 v3 v4 v5 g → ∀ (H : Heap) (locs : List Loc) (ls : Array Slot), uE D 16 mA (mO a) cs a F s g H locs → lv_has ls 6 [(0, .ref (a 0)), (1, .int v1), (2, .int v2), (3, .int v3), (4, .int v4), (5, .int v5)] → W p l e rm_X7_solves s m args below meth c H locs 0 0 (MQ below (va_Qv post (uB D (uW 16 mA (mO a) cs a)) F) args s 0 0 F) (F0 m 124 ls []) := by
    intro K88 hK88 v1 v2 v3 v4 v5 g  hv
    intro H locs ls hE hl
    unfold J_X7_solves_124 at hv
    refine lv_iinc (v := (v5 + (-1))) (lv' := [(5, .int (v5 + (-1))), (0, .ref (a 0)), (1, .int v1), (2, .int v2), (3, .int v3), (4, .int v4)]) hx hb dX7_solves_124 hl (k := 5) rfl rfl (by decide) rfl (fun ls hl => ?_)
    refine lv_goto (tgt := 88) hx hb dX7_solves_127 (by decide) ?_
    exact hK88 _ _ _ _ _ _  hv _ _ _ hE (lv_sub hl [1, 2, 3, 4, 5, 0] rfl)
  have j_88 : ∀ (v1 : Int32) (v2 : Int32) (v3 : Int32) (v4 : Int32) (v5 : Int32) (g : St), lpP (fun K88 (z : Int32 × Int32 × Int32 × Int32 × Int32 × St) => J_X7_solves_88 x1 post K88 z.1 z.2.1 z.2.2.1 z.2.2.2.1 z.2.2.2.2.1 z.2.2.2.2.2) (v1, v2, v3, v4, v5, g) → ∀ (H : Heap) (locs : List Loc) (ls : Array Slot), uE D 16 mA (mO a) cs a F s g H locs → lv_has ls 6 [(0, .ref (a 0)), (1, .int v1), (2, .int v2), (3, .int v3), (4, .int v4), (5, .int v5)] → W p l e rm_X7_solves s m args below meth c H locs 0 0 (MQ below (va_Qv post (uB D (uW 16 mA (mO a) cs a)) F) args s 0 0 F) (F0 m 88 ls []) := by
    intro  v1 v2 v3 v4 v5 g  hv
    obtain ⟨nn, hv⟩ := hv
    induction nn generalizing v1 v2 v3 v4 v5 g with
    | zero => exact False.elim hv
    | succ nn hK88 =>
      intro H locs ls hE hl
      have hv : J_X7_solves_88 x1 post (itP _ nn) v1 v2 v3 v4 v5 g := hv
      unfold J_X7_solves_88 at hv
      refine lv_iload hx hb dX7_solves_88 (lv_at hl 5 rfl) ?_
      refine lv_if_lt (tgt := 130) hx hb dX7_solves_90 (by decide) (fun c => ?_) (fun c => ?_)
      · have hv := hv.1 c
        refine lv_iconst (v := 0) hx hb dX7_solves_130 (by decide) ?_
        refine lv_istore (lv' := [(5, .int 0), (0, .ref (a 0)), (1, .int v1), (2, .int v2), (3, .int v3), (4, .int v4)]) hx hb dX7_solves_131 hl (by decide) rfl (fun ls hl => ?_)
        exact j_133  _ _ _ _  hv _ _ _ hE (lv_sub hl [1, 2, 5, 0] rfl)
      · have hv := hv.2 c
        refine lv_iload_n hx hb dX7_solves_93 rfl (lv_at hl 2 rfl) ?_
        refine lv_iconst (v := (-1)) hx hb dX7_solves_94 (by decide) ?_
        refine lv_icmp_ne (tgt := 124) hx hb dX7_solves_95 (by decide) (fun c => ?_) (fun c => ?_)
        · have hv := hv.1 c
          exact j_124 _ hK88 _ _ _ _ _ _  hv _ _ _ hE (lv_sub hl [0, 1, 2, 3, 4, 5] rfl)
        · have hv := hv.2 c
          refine lv_aload_n hx hb dX7_solves_98 rfl (lv_at hl 0 rfl) ?_
          refine G_get (v := .ref (a 3)) hC hE (fun _ h => List.mem_cons_of_mem _ (List.mem_append_left _ (List.mem_append_right _ h))) f_model rfl 2 (by decide) (hts (.fieldLink RX7 16 "SeedBattleModel" "wants" "[I") (List.mem_of_getElem? (i := 3) rfl)) rfl dX7_solves_99 ?_
          refine lv_iload hx hb dX7_solves_102 (lv_at hl 5 rfl) ?_
          refine G_iald hC hE f_m_wants hv.1 dX7_solves_104 ?_
          have hv := hv.2
          refine lv_iload_n hx hb dX7_solves_105 rfl (lv_at hl 1 rfl) ?_
          refine lv_icmp_ne (tgt := 124) hx hb dX7_solves_106 (by decide) (fun c => ?_) (fun c => ?_)
          · have hv := hv.1 c
            exact j_124 _ hK88 _ _ _ _ _ _  hv _ _ _ hE (lv_sub hl [0, 1, 2, 3, 4, 5] rfl)
          · have hv := hv.2 c
            refine lv_aload_n hx hb dX7_solves_109 rfl (lv_at hl 0 rfl) ?_
            refine G_get (v := .ref (a 1)) hC hE (fun _ h => List.mem_cons_of_mem _ (List.mem_append_left _ (List.mem_append_right _ h))) f_model rfl 0 (by decide) (hts (.fieldLink RX7 7 "SeedBattleModel" "player" "[I") (List.mem_of_getElem? (i := 4) rfl)) rfl dX7_solves_110 ?_
            refine lv_iload hx hb dX7_solves_113 (lv_at hl 5 rfl) ?_
            refine G_iald hC hE f_m_player hv.1 dX7_solves_115 ?_
            have hv := hv.2
            refine lv_iload_n hx hb dX7_solves_116 rfl (lv_at hl 3 rfl) ?_
            refine lv_icmp_ne (tgt := 124) hx hb dX7_solves_117 (by decide) (fun c => ?_) (fun c => ?_)
            · have hv := hv.1 c
              exact j_124 _ hK88 _ _ _ _ _ _  hv _ _ _ hE (lv_sub hl [0, 1, 2, 3, 4, 5] rfl)
            · have hv := hv.2 c
              refine lv_iload hx hb dX7_solves_120 (lv_at hl 5 rfl) ?_
              refine lv_istore (lv' := [(4, .int v5), (0, .ref (a 0)), (1, .int v1), (2, .int v2), (3, .int v3), (5, .int v5)]) hx hb dX7_solves_122 hl (by decide) rfl (fun ls hl => ?_)
              exact j_124 _ hK88 _ _ _ _ _ _  hv _ _ _ hE (lv_sub hl [1, 2, 3, 4, 0, 5] rfl)
  have j_80 : ∀ (v1 : Int32) (v2 : Int32) (v3 : Int32) (v4 : Int32) (g : St), J_X7_solves_80 x1 post v1 v2 v3 v4 g → ∀ (H : Heap) (locs : List Loc) (ls : Array Slot), uE D 16 mA (mO a) cs a F s g H locs → lv_has ls 6 [(0, .ref (a 0)), (1, .int v1), (2, .int v2), (3, .int v3), (4, .int v4)] → W p l e rm_X7_solves s m args below meth c H locs 0 0 (MQ below (va_Qv post (uB D (uW 16 mA (mO a) cs a)) F) args s 0 0 F) (F0 m 80 ls []) := by
    intro  v1 v2 v3 v4 g  hv
    intro H locs ls hE hl
    unfold J_X7_solves_80 at hv
    refine lv_aload_n hx hb dX7_solves_80 rfl (lv_at hl 0 rfl) ?_
    refine G_get (v := .int (g.2 2)) hC hE (fun _ h => List.mem_cons_of_mem _ (List.mem_append_left _ (List.mem_append_right _ h))) f_model rfl 17 (by decide) (hts (.fieldLink RX7 65 "SeedBattleModel" "units" "I") (List.mem_of_getElem? (i := 1) rfl)) rfl dX7_solves_81 ?_
    refine lv_iconst (v := 1) hx hb dX7_solves_84 (by decide) ?_
    refine lv_isub hx hb dX7_solves_85 ?_
    refine lv_istore (lv' := [(5, .int ((g.2 2) - 1)), (0, .ref (a 0)), (1, .int v1), (2, .int v2), (3, .int v3), (4, .int v4)]) hx hb dX7_solves_86 hl (by decide) rfl (fun ls hl => ?_)
    exact j_88  _ _ _ _ _ _  hv _ _ _ hE (lv_sub hl [1, 2, 3, 4, 5, 0] rfl)
  have j_48 : ∀ (K14 : (Int32 × Int32 × Int32 × Int32 × Int32 × St) → Prop), (∀ (v1 : Int32) (v2 : Int32) (v3 : Int32) (v4 : Int32) (v5 : Int32) (g : St), K14 (v1, v2, v3, v4, v5, g) → ∀ (H : Heap) (locs : List Loc) (ls : Array Slot), uE D 16 mA (mO a) cs a F s g H locs → lv_has ls 6 [(0, .ref (a 0)), (1, .int v1), (2, .int v2), (3, .int v3), (4, .int v4), (5, .int v5)] → W p l e rm_X7_solves s m args below meth c H locs 0 0 (MQ below (va_Qv post (uB D (uW 16 mA (mO a) cs a)) F) args s 0 0 F) (F0 m 14 ls [])) → ∀ (v1 : Int32) (v2 : Int32) (v3 : Int32) (v4 : Int32) (v5 : Int32) (g : St), J_X7_solves_48 x1 post K14 v1 v2 v3 v4 v5 g → ∀ (H : Heap) (locs : List Loc) (ls : Array Slot), uE D 16 mA (mO a) cs a F s g H locs → lv_has ls 6 [(0, .ref (a 0)), (1, .int v1), (2, .int v2), (3, .int v3), (4, .int v4), (5, .int v5)] → W p l e rm_X7_solves s m args below meth c H locs 0 0 (MQ below (va_Qv post (uB D (uW 16 mA (mO a) cs a)) F) args s 0 0 F) (F0 m 48 ls []) := by
    intro K14 hK14 v1 v2 v3 v4 v5 g  hv
    intro H locs ls hE hl
    unfold J_X7_solves_48 at hv
    refine lv_iinc (v := (v5 + 1)) (lv' := [(5, .int (v5 + 1)), (0, .ref (a 0)), (1, .int v1), (2, .int v2), (3, .int v3), (4, .int v4)]) hx hb dX7_solves_48 hl (k := 5) rfl rfl (by decide) rfl (fun ls hl => ?_)
    refine lv_goto (tgt := 14) hx hb dX7_solves_51 (by decide) ?_
    exact hK14 _ _ _ _ _ _  hv _ _ _ hE (lv_sub hl [1, 2, 3, 4, 5, 0] rfl)
  have j_14 : ∀ (v1 : Int32) (v2 : Int32) (v3 : Int32) (v4 : Int32) (v5 : Int32) (g : St), lpP (fun K14 (z : Int32 × Int32 × Int32 × Int32 × Int32 × St) => J_X7_solves_14 x1 post K14 z.1 z.2.1 z.2.2.1 z.2.2.2.1 z.2.2.2.2.1 z.2.2.2.2.2) (v1, v2, v3, v4, v5, g) → ∀ (H : Heap) (locs : List Loc) (ls : Array Slot), uE D 16 mA (mO a) cs a F s g H locs → lv_has ls 6 [(0, .ref (a 0)), (1, .int v1), (2, .int v2), (3, .int v3), (4, .int v4), (5, .int v5)] → W p l e rm_X7_solves s m args below meth c H locs 0 0 (MQ below (va_Qv post (uB D (uW 16 mA (mO a) cs a)) F) args s 0 0 F) (F0 m 14 ls []) := by
    intro  v1 v2 v3 v4 v5 g  hv
    obtain ⟨nn, hv⟩ := hv
    induction nn generalizing v1 v2 v3 v4 v5 g with
    | zero => exact False.elim hv
    | succ nn hK14 =>
      intro H locs ls hE hl
      have hv : J_X7_solves_14 x1 post (itP _ nn) v1 v2 v3 v4 v5 g := hv
      unfold J_X7_solves_14 at hv
      refine lv_iload hx hb dX7_solves_14 (lv_at hl 5 rfl) ?_
      refine lv_aload_n hx hb dX7_solves_16 rfl (lv_at hl 0 rfl) ?_
      refine G_get (v := .int (g.2 2)) hC hE (fun _ h => List.mem_cons_of_mem _ (List.mem_append_left _ (List.mem_append_right _ h))) f_model rfl 17 (by decide) (hts (.fieldLink RX7 65 "SeedBattleModel" "units" "I") (List.mem_of_getElem? (i := 1) rfl)) rfl dX7_solves_17 ?_
      refine lv_icmp_ge (tgt := 54) hx hb dX7_solves_20 (by decide) (fun c => ?_) (fun c => ?_)
      · have hv := hv.1 c
        refine lv_iload_n hx hb dX7_solves_54 rfl (lv_at hl 2 rfl) ?_
        refine lv_iconst (v := (-1)) hx hb dX7_solves_55 (by decide) ?_
        refine lv_icmp_eq (tgt := 80) hx hb dX7_solves_56 (by decide) (fun c => ?_) (fun c => ?_)
        · have hv := hv.1 c
          exact j_80  _ _ _ _ _  hv _ _ _ hE (lv_sub hl [0, 1, 2, 3, 4] rfl)
        · have hv := hv.2 c
          refine lv_iload_n hx hb dX7_solves_59 rfl (lv_at hl 3 rfl) ?_
          refine lv_iconst (v := (-1)) hx hb dX7_solves_60 (by decide) ?_
          refine lv_icmp_eq (tgt := 80) hx hb dX7_solves_61 (by decide) (fun c => ?_) (fun c => ?_)
          · have hv := hv.1 c
            exact j_80  _ _ _ _ _  hv _ _ _ hE (lv_sub hl [0, 1, 2, 3, 4] rfl)
          · have hv := hv.2 c
            refine lv_iload_n hx hb dX7_solves_64 rfl (lv_at hl 3 rfl) ?_
            refine lv_aload_n hx hb dX7_solves_65 rfl (lv_at hl 0 rfl) ?_
            refine G_get (v := .ref (a 1)) hC hE (fun _ h => List.mem_cons_of_mem _ (List.mem_append_left _ (List.mem_append_right _ h))) f_model rfl 0 (by decide) (hts (.fieldLink RX7 7 "SeedBattleModel" "player" "[I") (List.mem_of_getElem? (i := 4) rfl)) rfl dX7_solves_66 ?_
            refine lv_iload_n hx hb dX7_solves_69 rfl (lv_at hl 2 rfl) ?_
            refine G_iald hC hE f_m_player hv.1 dX7_solves_70 ?_
            have hv := hv.2
            refine lv_icmp_eq (tgt := 80) hx hb dX7_solves_71 (by decide) (fun c => ?_) (fun c => ?_)
            · have hv := hv.1 c
              exact j_80  _ _ _ _ _  hv _ _ _ hE (lv_sub hl [0, 1, 2, 3, 4] rfl)
            · have hv := hv.2 c
              refine lv_aload_n hx hb dX7_solves_74 rfl (lv_at hl 0 rfl) ?_
              refine lv_iload_n hx hb dX7_solves_75 rfl (lv_at hl 2 rfl) ?_
              refine G_callVv hC (c_X7_lose l D cs az a v2 g _ hv) (cwV 1 hts gX7_solves_X7_lose rfl rfl rfl (by decide +kernel) ⟨Nat.le_of_ble_eq_true rfl, Nat.le_of_ble_eq_true rfl⟩) f_model rfl rfl hl rfl (Nat.le_of_ble_eq_true rfl) dX7_solves_76 hE (fun g3 H locs hv hE => ?_)
              exact G_vret hC hr hk hE hv dX7_solves_79
      · have hv := hv.2 c
        refine lv_aload_n hx hb dX7_solves_23 rfl (lv_at hl 0 rfl) ?_
        refine G_get (v := .ref (a 2)) hC hE (fun _ h => List.mem_cons_of_mem _ (List.mem_append_left _ (List.mem_append_right _ h))) f_model rfl 1 (by decide) (hts (.fieldLink RX7 13 "SeedBattleModel" "cell" "[I") (List.mem_of_getElem? (i := 2) rfl)) rfl dX7_solves_24 ?_
        refine lv_iload hx hb dX7_solves_27 (lv_at hl 5 rfl) ?_
        refine G_iald hC hE f_m_cell hv.1 dX7_solves_29 ?_
        have hv := hv.2
        refine lv_iload_n hx hb dX7_solves_30 rfl (lv_at hl 1 rfl) ?_
        refine lv_icmp_ne (tgt := 48) hx hb dX7_solves_31 (by decide) (fun c => ?_) (fun c => ?_)
        · have hv := hv.1 c
          exact j_48 _ hK14 _ _ _ _ _ _  hv _ _ _ hE (lv_sub hl [0, 1, 2, 3, 4, 5] rfl)
        · have hv := hv.2 c
          refine lv_aload_n hx hb dX7_solves_34 rfl (lv_at hl 0 rfl) ?_
          refine G_get (v := .ref (a 3)) hC hE (fun _ h => List.mem_cons_of_mem _ (List.mem_append_left _ (List.mem_append_right _ h))) f_model rfl 2 (by decide) (hts (.fieldLink RX7 16 "SeedBattleModel" "wants" "[I") (List.mem_of_getElem? (i := 3) rfl)) rfl dX7_solves_35 ?_
          refine lv_iload hx hb dX7_solves_38 (lv_at hl 5 rfl) ?_
          refine G_iald hC hE f_m_wants hv.1 dX7_solves_40 ?_
          have hv := hv.2
          refine lv_iload_n hx hb dX7_solves_41 rfl (lv_at hl 1 rfl) ?_
          refine lv_icmp_ne (tgt := 48) hx hb dX7_solves_42 (by decide) (fun c => ?_) (fun c => ?_)
          · have hv := hv.1 c
            exact j_48 _ hK14 _ _ _ _ _ _  hv _ _ _ hE (lv_sub hl [0, 1, 2, 3, 4, 5] rfl)
          · have hv := hv.2 c
            refine lv_iload hx hb dX7_solves_45 (lv_at hl 5 rfl) ?_
            refine lv_istore_n (lv' := [(2, .int v5), (0, .ref (a 0)), (1, .int v1), (3, .int v3), (4, .int v4), (5, .int v5)]) hx hb dX7_solves_47 rfl hl (by decide) rfl (fun ls hl => ?_)
            exact j_48 _ hK14 _ _ _ _ _ _  hv _ _ _ hE (lv_sub hl [1, 2, 0, 3, 4, 5] rfl)
  refine lv_iconst (v := (-1)) hx hb dX7_solves_0 (by decide) ?_
  refine lv_istore_n (lv' := [(2, .int (-1)), (0, .ref (a 0)), (1, .int x1)]) hx hb dX7_solves_1 rfl hl (by decide) rfl (fun ls hl => ?_)
  refine lv_aload_n hx hb dX7_solves_2 rfl (lv_at hl 1 rfl) ?_
  refine lv_iload_n hx hb dX7_solves_3 rfl (lv_at hl 2 rfl) ?_
  refine G_callVi hC (c_X7_strongest l D cs az a x1 g _ hv) (cwV 1 hts gX7_solves_X7_strongest rfl rfl rfl (by decide +kernel) ⟨Nat.le_of_ble_eq_true rfl, Nat.le_of_ble_eq_true rfl⟩) f_model rfl rfl hl rfl (Nat.le_of_ble_eq_true rfl) dX7_solves_4 hE (fun r2 g1 H locs hv hE => ?_)
  refine lv_istore_n (lv' := [(3, .int r2), (2, .int (-1)), (0, .ref (a 0)), (1, .int x1)]) hx hb dX7_solves_7 rfl hl (by decide) rfl (fun ls hl => ?_)
  refine lv_iconst (v := (-1)) hx hb dX7_solves_8 (by decide) ?_
  refine lv_istore (lv' := [(4, .int (-1)), (3, .int r2), (2, .int (-1)), (0, .ref (a 0)), (1, .int x1)]) hx hb dX7_solves_9 hl (by decide) rfl (fun ls hl => ?_)
  refine lv_iconst (v := 0) hx hb dX7_solves_11 (by decide) ?_
  refine lv_istore (lv' := [(5, .int 0), (4, .int (-1)), (3, .int r2), (2, .int (-1)), (0, .ref (a 0)), (1, .int x1)]) hx hb dX7_solves_12 hl (by decide) rfl (fun ls hl => ?_)
  exact j_14  _ _ _ _ _ _  hv _ _ _ hE (lv_sub hl [4, 5, 3, 2, 1, 0] rfl)
def J_X7_step_165 (x1 : Int32) (post : St → Prop) (K165 : (Int32 × St) → Prop) (v3 : Int32) (g : St) : Prop := (((g.2 2) ≤ v3 → post g) ∧ (¬ (g.2 2) ≤ v3 → vp_in v3 24 ∧ (vp_in v3 24 ∧ (K165 ((v3 + 1), (sA g 2 (upd (g.1 2) (Int32.toNatClampNeg v3) (g.1 3 (Int32.toNatClampNeg v3)))))))))
def J_X7_step_145 (x1 : Int32) (post : St → Prop) (K145 : (Int32 × St) → Prop) (v2 : Int32) (g : St) : Prop := ((v2 = (-1) → lpP (fun K165 (z : Int32 × St) => J_X7_step_165 x1 post K165 z.1 z.2) (0, g)) ∧ (¬ v2 = (-1) → V_X7_solves v2 g (fun g7 => V_X7_contested g7 (fun r9 g8 => K145 (r9, g8)))))
def J_X7_step_114 (x1 : Int32) (post : St → Prop) (K102 : (Int32 × St) → Prop) (K114 : (Int32 × Int32 × St) → Prop) (v2 : Int32) (v3 : Int32) (g : St) : Prop := (((g.2 2) ≤ v3 → K102 ((v2 + 1), g)) ∧ (¬ (g.2 2) ≤ v3 → V_X7_meets v2 v3 g (fun g6 => K114 (v2, (v3 + 1), g6))))
def J_X7_step_102 (x1 : Int32) (post : St → Prop) (K102 : (Int32 × St) → Prop) (v2 : Int32) (g : St) : Prop := (((g.2 2) ≤ v2 → V_X7_contested g (fun r5 g4 => lpP (fun K145 (z : Int32 × St) => J_X7_step_145 x1 post K145 z.1 z.2) (r5, g4))) ∧ (¬ (g.2 2) ≤ v2 → lpP (fun K114 (z : Int32 × Int32 × St) => J_X7_step_114 x1 post K102 K114 z.1 z.2.1 z.2.2) (v2, (v2 + 1), g)))
def J_X7_step_93 (x1 : Int32) (post : St → Prop) (K2 : (Int32 × Int32 × St) → Prop) (v1 : Int32) (v2 : Int32) (t0 : Int32) (t1 : Int32) (g : St) : Prop := vp_in t1 24 ∧ (K2 (v1, (v2 + 1), (sA g 3 (upd (g.1 3) (Int32.toNatClampNeg t1) t0))))
def J_X7_step_83 (x1 : Int32) (post : St → Prop) (K2 : (Int32 × Int32 × St) → Prop) (v1 : Int32) (v2 : Int32) (t0 : Int32) (g : St) : Prop := vp_in v2 24 ∧ (J_X7_step_93 x1 post K2 v1 v2 (g.1 2 (Int32.toNatClampNeg v2)) t0 g)
def J_X7_step_62 (x1 : Int32) (post : St → Prop) (K2 : (Int32 × Int32 × St) → Prop) (v1 : Int32) (v2 : Int32) (t0 : Int32) (g : St) : Prop := ((t0 = (-1) → J_X7_step_83 x1 post K2 v1 v2 v2 g) ∧ (¬ t0 = (-1) → V_X7_groundOf t0 g (fun r3 g2 => ((¬ r3 = 120 → J_X7_step_93 x1 post K2 v1 v2 t0 v2 g2) ∧ (r3 = 120 → J_X7_step_83 x1 post K2 v1 v2 v2 g2)))))
def J_X7_step_59 (x1 : Int32) (post : St → Prop) (K2 : (Int32 × Int32 × St) → Prop) (v1 : Int32) (v2 : Int32) (t0 : Int32) (t1 : Int32) (g : St) : Prop := V_X7_moved t1 t0 (fun r1 => J_X7_step_62 x1 post K2 v1 v2 r1 g)
def J_X7_step_30 (x1 : Int32) (post : St → Prop) (K2 : (Int32 × Int32 × St) → Prop) (v1 : Int32) (v2 : Int32) (g : St) : Prop := J_X7_step_62 x1 post K2 v1 v2 (-1) g
def J_X7_step_2 (x1 : Int32) (post : St → Prop) (K2 : (Int32 × Int32 × St) → Prop) (v1 : Int32) (v2 : Int32) (g : St) : Prop := (((g.2 2) ≤ v2 → lpP (fun K102 (z : Int32 × St) => J_X7_step_102 x1 post K102 z.1 z.2) (0, g)) ∧ (¬ (g.2 2) ≤ v2 → vp_in v2 24 ∧ ((((g.1 2 (Int32.toNatClampNeg v2)) = (-1) → J_X7_step_30 x1 post K2 v1 v2 g) ∧ (¬ (g.1 2 (Int32.toNatClampNeg v2)) = (-1) → vp_in v2 24 ∧ (((v1 < (g.1 4 (Int32.toNatClampNeg v2)) → vp_in v2 24 ∧ (((¬ v1 = 0 → vp_in v2 24 ∧ (J_X7_step_59 x1 post K2 v1 v2 (g.1 6 (Int32.toNatClampNeg v2)) (g.1 2 (Int32.toNatClampNeg v2)) g)) ∧ (v1 = 0 → vp_in v2 24 ∧ (J_X7_step_59 x1 post K2 v1 v2 (g.1 5 (Int32.toNatClampNeg v2)) (g.1 2 (Int32.toNatClampNeg v2)) g))))) ∧ (¬ v1 < (g.1 4 (Int32.toNatClampNeg v2)) → J_X7_step_30 x1 post K2 v1 v2 g))))))))
def V_X7_step (x1 : Int32) (g : St) (post : St → Prop) : Prop := lpP (fun K2 (z : Int32 × Int32 × St) => J_X7_step_2 x1 post K2 z.1 z.2.1 z.2.2) (x1, 0, g)
abbrev rm_X7_step : Room := { frames := 4, cells := 0, slots := 0, locals := 94 }
set_option maxHeartbeats 4000000 in
set_option maxRecDepth 100000 in
theorem c_X7_step (l : Launch) (D : va_G) (cs az a : Nat → Nat) (x1 : Int32) (g : St) (post : St → Prop) (hv : V_X7_step x1 g post) : uMv l yX7_step wsX7_step rm_X7_step D cs az (mW cs a) [.ref (a 0), .int x1] g post := by
  refine u_ofV (cc := cX7_step) (maxL := 4) (by decide) rfl (Nat.le_of_ble_eq_true rfl) ?_
  intro p e s m args below meth c F ls hC hr hk hl hE
  have hx := hC.1.1; have hb := hC.1.2.1; have hml := hC.1.2.2.1; have hts := hC.1.2.2.2.2
  have hown : s.vm.findClass RX7 = some m.cls := hC.1.2.2.2.1
  have hl : lv_has ls 4 [(0, .ref (a 0)), (1, .int x1)] := hl
  unfold V_X7_step at hv
  have j_165 : ∀ (v3 : Int32) (g : St), lpP (fun K165 (z : Int32 × St) => J_X7_step_165 x1 post K165 z.1 z.2) (v3, g) → ∀ (H : Heap) (locs : List Loc) (ls : Array Slot), uE D 16 mA (mO a) cs a F s g H locs → lv_has ls 4 [(0, .ref (a 0)), (3, .int v3)] → W p l e rm_X7_step s m args below meth c H locs 0 0 (MQ below (va_Qv post (uB D (uW 16 mA (mO a) cs a)) F) args s 0 0 F) (F0 m 165 ls []) := by
    intro  v3 g  hv
    obtain ⟨nn, hv⟩ := hv
    induction nn generalizing v3 g with
    | zero => exact False.elim hv
    | succ nn hK165 =>
      intro H locs ls hE hl
      have hv : J_X7_step_165 x1 post (itP _ nn) v3 g := hv
      unfold J_X7_step_165 at hv
      refine lv_iload_n hx hb dX7_step_165 rfl (lv_at hl 1 rfl) ?_
      refine lv_aload_n hx hb dX7_step_166 rfl (lv_at hl 0 rfl) ?_
      refine G_get (v := .int (g.2 2)) hC hE (fun _ h => List.mem_cons_of_mem _ (List.mem_append_left _ (List.mem_append_right _ h))) f_model rfl 17 (by decide) (hts (.fieldLink RX7 65 "SeedBattleModel" "units" "I") (List.mem_of_getElem? (i := 1) rfl)) rfl dX7_step_167 ?_
      refine lv_icmp_ge (tgt := 191) hx hb dX7_step_170 (by decide) (fun c => ?_) (fun c => ?_)
      · have hv := hv.1 c
        exact G_vret hC hr hk hE hv dX7_step_191
      · have hv := hv.2 c
        refine lv_aload_n hx hb dX7_step_173 rfl (lv_at hl 0 rfl) ?_
        refine G_get (v := .ref (a 2)) hC hE (fun _ h => List.mem_cons_of_mem _ (List.mem_append_left _ (List.mem_append_right _ h))) f_model rfl 1 (by decide) (hts (.fieldLink RX7 13 "SeedBattleModel" "cell" "[I") (List.mem_of_getElem? (i := 2) rfl)) rfl dX7_step_174 ?_
        refine lv_iload_n hx hb dX7_step_177 rfl (lv_at hl 1 rfl) ?_
        refine lv_aload_n hx hb dX7_step_178 rfl (lv_at hl 0 rfl) ?_
        refine G_get (v := .ref (a 3)) hC hE (fun _ h => List.mem_cons_of_mem _ (List.mem_append_left _ (List.mem_append_right _ h))) f_model rfl 2 (by decide) (hts (.fieldLink RX7 16 "SeedBattleModel" "wants" "[I") (List.mem_of_getElem? (i := 6) rfl)) rfl dX7_step_179 ?_
        refine lv_iload_n hx hb dX7_step_182 rfl (lv_at hl 1 rfl) ?_
        refine G_iald hC hE f_m_wants hv.1 dX7_step_183 ?_
        have hv := hv.2
        refine G_iast hC hE f_m_cell hv.1 dX7_step_184 (fun H locs hE => ?_)
        have hv := hv.2
        refine lv_iinc (v := (v3 + 1)) (lv' := [(3, .int (v3 + 1)), (0, .ref (a 0))]) hx hb dX7_step_185 hl (k := 1) rfl rfl (by decide) rfl (fun ls hl => ?_)
        refine lv_goto (tgt := 165) hx hb dX7_step_188 (by decide) ?_
        exact hK165 _ _  hv _ _ _ hE (lv_sub hl [1, 0] rfl)
  have j_145 : ∀ (v2 : Int32) (g : St), lpP (fun K145 (z : Int32 × St) => J_X7_step_145 x1 post K145 z.1 z.2) (v2, g) → ∀ (H : Heap) (locs : List Loc) (ls : Array Slot), uE D 16 mA (mO a) cs a F s g H locs → lv_has ls 4 [(0, .ref (a 0)), (2, .int v2)] → W p l e rm_X7_step s m args below meth c H locs 0 0 (MQ below (va_Qv post (uB D (uW 16 mA (mO a) cs a)) F) args s 0 0 F) (F0 m 145 ls []) := by
    intro  v2 g  hv
    obtain ⟨nn, hv⟩ := hv
    induction nn generalizing v2 g with
    | zero => exact False.elim hv
    | succ nn hK145 =>
      intro H locs ls hE hl
      have hv : J_X7_step_145 x1 post (itP _ nn) v2 g := hv
      unfold J_X7_step_145 at hv
      refine lv_iload_n hx hb dX7_step_145 rfl (lv_at hl 1 rfl) ?_
      refine lv_iconst (v := (-1)) hx hb dX7_step_146 (by decide) ?_
      refine lv_icmp_eq (tgt := 163) hx hb dX7_step_147 (by decide) (fun c => ?_) (fun c => ?_)
      · have hv := hv.1 c
        refine lv_iconst (v := 0) hx hb dX7_step_163 (by decide) ?_
        refine lv_istore_n (lv' := [(3, .int 0), (0, .ref (a 0)), (2, .int v2)]) hx hb dX7_step_164 rfl hl (by decide) rfl (fun ls hl => ?_)
        exact j_165  _ _  hv _ _ _ hE (lv_sub hl [1, 0] rfl)
      · have hv := hv.2 c
        refine lv_aload_n hx hb dX7_step_150 rfl (lv_at hl 0 rfl) ?_
        refine lv_iload_n hx hb dX7_step_151 rfl (lv_at hl 1 rfl) ?_
        refine G_callVv hC (c_X7_solves l D cs az a v2 g _ hv) (cwV 1 hts gX7_step_X7_solves rfl rfl rfl (by decide +kernel) ⟨Nat.le_of_ble_eq_true rfl, Nat.le_of_ble_eq_true rfl⟩) f_model rfl rfl hl rfl (Nat.le_of_ble_eq_true rfl) dX7_step_152 hE (fun g7 H locs hv hE => ?_)
        refine lv_aload_n hx hb dX7_step_155 rfl (lv_at hl 0 rfl) ?_
        refine G_callVi hC (c_X7_contested l D cs az a  g7 _ hv) (cwV 0 hts gX7_step_X7_contested rfl rfl rfl (by decide +kernel) ⟨Nat.le_of_ble_eq_true rfl, Nat.le_of_ble_eq_true rfl⟩) f_model rfl rfl hl rfl (Nat.le_of_ble_eq_true rfl) dX7_step_156 hE (fun r9 g8 H locs hv hE => ?_)
        refine lv_istore_n (lv' := [(2, .int r9), (0, .ref (a 0))]) hx hb dX7_step_159 rfl hl (by decide) rfl (fun ls hl => ?_)
        refine lv_goto (tgt := 145) hx hb dX7_step_160 (by decide) ?_
        exact hK145 _ _  hv _ _ _ hE (lv_sub hl [1, 0] rfl)
  have j_114 : ∀ (K102 : (Int32 × St) → Prop), (∀ (v2 : Int32) (g : St), K102 (v2, g) → ∀ (H : Heap) (locs : List Loc) (ls : Array Slot), uE D 16 mA (mO a) cs a F s g H locs → lv_has ls 4 [(0, .ref (a 0)), (2, .int v2)] → W p l e rm_X7_step s m args below meth c H locs 0 0 (MQ below (va_Qv post (uB D (uW 16 mA (mO a) cs a)) F) args s 0 0 F) (F0 m 102 ls [])) → ∀ (v2 : Int32) (v3 : Int32) (g : St), lpP (fun K114 (z : Int32 × Int32 × St) => J_X7_step_114 x1 post K102 K114 z.1 z.2.1 z.2.2) (v2, v3, g) → ∀ (H : Heap) (locs : List Loc) (ls : Array Slot), uE D 16 mA (mO a) cs a F s g H locs → lv_has ls 4 [(0, .ref (a 0)), (2, .int v2), (3, .int v3)] → W p l e rm_X7_step s m args below meth c H locs 0 0 (MQ below (va_Qv post (uB D (uW 16 mA (mO a) cs a)) F) args s 0 0 F) (F0 m 114 ls []) := by
    intro K102 hK102 v2 v3 g  hv
    obtain ⟨nn, hv⟩ := hv
    induction nn generalizing v2 v3 g with
    | zero => exact False.elim hv
    | succ nn hK114 =>
      intro H locs ls hE hl
      have hv : J_X7_step_114 x1 post K102 (itP _ nn) v2 v3 g := hv
      unfold J_X7_step_114 at hv
      refine lv_iload_n hx hb dX7_step_114 rfl (lv_at hl 2 rfl) ?_
      refine lv_aload_n hx hb dX7_step_115 rfl (lv_at hl 0 rfl) ?_
      refine G_get (v := .int (g.2 2)) hC hE (fun _ h => List.mem_cons_of_mem _ (List.mem_append_left _ (List.mem_append_right _ h))) f_model rfl 17 (by decide) (hts (.fieldLink RX7 65 "SeedBattleModel" "units" "I") (List.mem_of_getElem? (i := 1) rfl)) rfl dX7_step_116 ?_
      refine lv_icmp_ge (tgt := 134) hx hb dX7_step_119 (by decide) (fun c => ?_) (fun c => ?_)
      · have hv := hv.1 c
        refine lv_iinc (v := (v2 + 1)) (lv' := [(2, .int (v2 + 1)), (0, .ref (a 0)), (3, .int v3)]) hx hb dX7_step_134 hl (k := 1) rfl rfl (by decide) rfl (fun ls hl => ?_)
        refine lv_goto (tgt := 102) hx hb dX7_step_137 (by decide) ?_
        exact hK102 _ _  hv _ _ _ hE (lv_sub hl [1, 0] rfl)
      · have hv := hv.2 c
        refine lv_aload_n hx hb dX7_step_122 rfl (lv_at hl 0 rfl) ?_
        refine lv_iload_n hx hb dX7_step_123 rfl (lv_at hl 1 rfl) ?_
        refine lv_iload_n hx hb dX7_step_124 rfl (lv_at hl 2 rfl) ?_
        refine G_callVv hC (c_X7_meets l D cs az a v2 v3 g _ hv) (cwV 2 hts gX7_step_X7_meets rfl rfl rfl (by decide +kernel) ⟨Nat.le_of_ble_eq_true rfl, Nat.le_of_ble_eq_true rfl⟩) f_model rfl rfl hl rfl (Nat.le_of_ble_eq_true rfl) dX7_step_125 hE (fun g6 H locs hv hE => ?_)
        refine lv_iinc (v := (v3 + 1)) (lv' := [(3, .int (v3 + 1)), (0, .ref (a 0)), (2, .int v2)]) hx hb dX7_step_128 hl (k := 2) rfl rfl (by decide) rfl (fun ls hl => ?_)
        refine lv_goto (tgt := 114) hx hb dX7_step_131 (by decide) ?_
        exact hK114 _ _ _  hv _ _ _ hE (lv_sub hl [1, 2, 0] rfl)
  have j_102 : ∀ (v2 : Int32) (g : St), lpP (fun K102 (z : Int32 × St) => J_X7_step_102 x1 post K102 z.1 z.2) (v2, g) → ∀ (H : Heap) (locs : List Loc) (ls : Array Slot), uE D 16 mA (mO a) cs a F s g H locs → lv_has ls 4 [(0, .ref (a 0)), (2, .int v2)] → W p l e rm_X7_step s m args below meth c H locs 0 0 (MQ below (va_Qv post (uB D (uW 16 mA (mO a) cs a)) F) args s 0 0 F) (F0 m 102 ls []) := by
    intro  v2 g  hv
    obtain ⟨nn, hv⟩ := hv
    induction nn generalizing v2 g with
    | zero => exact False.elim hv
    | succ nn hK102 =>
      intro H locs ls hE hl
      have hv : J_X7_step_102 x1 post (itP _ nn) v2 g := hv
      unfold J_X7_step_102 at hv
      refine lv_iload_n hx hb dX7_step_102 rfl (lv_at hl 1 rfl) ?_
      refine lv_aload_n hx hb dX7_step_103 rfl (lv_at hl 0 rfl) ?_
      refine G_get (v := .int (g.2 2)) hC hE (fun _ h => List.mem_cons_of_mem _ (List.mem_append_left _ (List.mem_append_right _ h))) f_model rfl 17 (by decide) (hts (.fieldLink RX7 65 "SeedBattleModel" "units" "I") (List.mem_of_getElem? (i := 1) rfl)) rfl dX7_step_104 ?_
      refine lv_icmp_ge (tgt := 140) hx hb dX7_step_107 (by decide) (fun c => ?_) (fun c => ?_)
      · have hv := hv.1 c
        refine lv_aload_n hx hb dX7_step_140 rfl (lv_at hl 0 rfl) ?_
        refine G_callVi hC (c_X7_contested l D cs az a  g _ hv) (cwV 0 hts gX7_step_X7_contested rfl rfl rfl (by decide +kernel) ⟨Nat.le_of_ble_eq_true rfl, Nat.le_of_ble_eq_true rfl⟩) f_model rfl rfl hl rfl (Nat.le_of_ble_eq_true rfl) dX7_step_141 hE (fun r5 g4 H locs hv hE => ?_)
        refine lv_istore_n (lv' := [(2, .int r5), (0, .ref (a 0))]) hx hb dX7_step_144 rfl hl (by decide) rfl (fun ls hl => ?_)
        exact j_145  _ _  hv _ _ _ hE (lv_sub hl [1, 0] rfl)
      · have hv := hv.2 c
        refine lv_iload_n hx hb dX7_step_110 rfl (lv_at hl 1 rfl) ?_
        refine lv_iconst (v := 1) hx hb dX7_step_111 (by decide) ?_
        refine lv_iadd hx hb dX7_step_112 ?_
        refine lv_istore_n (lv' := [(3, .int (v2 + 1)), (0, .ref (a 0)), (2, .int v2)]) hx hb dX7_step_113 rfl hl (by decide) rfl (fun ls hl => ?_)
        exact j_114 _ hK102 _ _ _  hv _ _ _ hE (lv_sub hl [1, 2, 0] rfl)
  have j_93 : ∀ (K2 : (Int32 × Int32 × St) → Prop), (∀ (v1 : Int32) (v2 : Int32) (g : St), K2 (v1, v2, g) → ∀ (H : Heap) (locs : List Loc) (ls : Array Slot), uE D 16 mA (mO a) cs a F s g H locs → lv_has ls 4 [(0, .ref (a 0)), (1, .int v1), (2, .int v2)] → W p l e rm_X7_step s m args below meth c H locs 0 0 (MQ below (va_Qv post (uB D (uW 16 mA (mO a) cs a)) F) args s 0 0 F) (F0 m 2 ls [])) → ∀ (v1 : Int32) (v2 : Int32) (t0 : Int32) (t1 : Int32) (g : St), J_X7_step_93 x1 post K2 v1 v2 t0 t1 g → ∀ (H : Heap) (locs : List Loc) (ls : Array Slot), uE D 16 mA (mO a) cs a F s g H locs → lv_has ls 4 [(0, .ref (a 0)), (1, .int v1), (2, .int v2)] → W p l e rm_X7_step s m args below meth c H locs 0 0 (MQ below (va_Qv post (uB D (uW 16 mA (mO a) cs a)) F) args s 0 0 F) (F0 m 93 ls [.int t0, .int t1, .ref (a 3)]) := by
    intro K2 hK2 v1 v2 t0 t1 g  hv
    intro H locs ls hE hl
    unfold J_X7_step_93 at hv
    refine G_iast hC hE f_m_wants hv.1 dX7_step_93 (fun H locs hE => ?_)
    have hv := hv.2
    refine lv_iinc (v := (v2 + 1)) (lv' := [(2, .int (v2 + 1)), (0, .ref (a 0)), (1, .int v1)]) hx hb dX7_step_94 hl (k := 2) rfl rfl (by decide) rfl (fun ls hl => ?_)
    refine lv_goto (tgt := 2) hx hb dX7_step_97 (by decide) ?_
    exact hK2 _ _ _  hv _ _ _ hE (lv_sub hl [1, 2, 0] rfl)
  have j_83 : ∀ (K2 : (Int32 × Int32 × St) → Prop), (∀ (v1 : Int32) (v2 : Int32) (g : St), K2 (v1, v2, g) → ∀ (H : Heap) (locs : List Loc) (ls : Array Slot), uE D 16 mA (mO a) cs a F s g H locs → lv_has ls 4 [(0, .ref (a 0)), (1, .int v1), (2, .int v2)] → W p l e rm_X7_step s m args below meth c H locs 0 0 (MQ below (va_Qv post (uB D (uW 16 mA (mO a) cs a)) F) args s 0 0 F) (F0 m 2 ls [])) → ∀ (v1 : Int32) (v2 : Int32) (t0 : Int32) (g : St), J_X7_step_83 x1 post K2 v1 v2 t0 g → ∀ (H : Heap) (locs : List Loc) (ls : Array Slot), uE D 16 mA (mO a) cs a F s g H locs → lv_has ls 4 [(0, .ref (a 0)), (1, .int v1), (2, .int v2)] → W p l e rm_X7_step s m args below meth c H locs 0 0 (MQ below (va_Qv post (uB D (uW 16 mA (mO a) cs a)) F) args s 0 0 F) (F0 m 83 ls [.int t0, .ref (a 3)]) := by
    intro K2 hK2 v1 v2 t0 g  hv
    intro H locs ls hE hl
    unfold J_X7_step_83 at hv
    refine lv_aload_n hx hb dX7_step_83 rfl (lv_at hl 0 rfl) ?_
    refine G_get (v := .ref (a 2)) hC hE (fun _ h => List.mem_cons_of_mem _ (List.mem_append_left _ (List.mem_append_right _ h))) f_model rfl 1 (by decide) (hts (.fieldLink RX7 13 "SeedBattleModel" "cell" "[I") (List.mem_of_getElem? (i := 2) rfl)) rfl dX7_step_84 ?_
    refine lv_iload_n hx hb dX7_step_87 rfl (lv_at hl 2 rfl) ?_
    refine G_iald hC hE f_m_cell hv.1 dX7_step_88 ?_
    have hv := hv.2
    refine lv_goto (tgt := 93) hx hb dX7_step_89 (by decide) ?_
    exact j_93 _ hK2 _ _ _ _ _  hv _ _ _ hE (lv_sub hl [0, 1, 2] rfl)
  have j_62 : ∀ (K2 : (Int32 × Int32 × St) → Prop), (∀ (v1 : Int32) (v2 : Int32) (g : St), K2 (v1, v2, g) → ∀ (H : Heap) (locs : List Loc) (ls : Array Slot), uE D 16 mA (mO a) cs a F s g H locs → lv_has ls 4 [(0, .ref (a 0)), (1, .int v1), (2, .int v2)] → W p l e rm_X7_step s m args below meth c H locs 0 0 (MQ below (va_Qv post (uB D (uW 16 mA (mO a) cs a)) F) args s 0 0 F) (F0 m 2 ls [])) → ∀ (v1 : Int32) (v2 : Int32) (t0 : Int32) (g : St), J_X7_step_62 x1 post K2 v1 v2 t0 g → ∀ (H : Heap) (locs : List Loc) (ls : Array Slot), uE D 16 mA (mO a) cs a F s g H locs → lv_has ls 4 [(0, .ref (a 0)), (1, .int v1), (2, .int v2)] → W p l e rm_X7_step s m args below meth c H locs 0 0 (MQ below (va_Qv post (uB D (uW 16 mA (mO a) cs a)) F) args s 0 0 F) (F0 m 62 ls [.int t0]) := by
    intro K2 hK2 v1 v2 t0 g  hv
    intro H locs ls hE hl
    unfold J_X7_step_62 at hv
    refine lv_istore_n (lv' := [(3, .int t0), (0, .ref (a 0)), (1, .int v1), (2, .int v2)]) hx hb dX7_step_62 rfl hl (by decide) rfl (fun ls hl => ?_)
    refine lv_aload_n hx hb dX7_step_63 rfl (lv_at hl 1 rfl) ?_
    refine G_get (v := .ref (a 3)) hC hE (fun _ h => List.mem_cons_of_mem _ (List.mem_append_left _ (List.mem_append_right _ h))) f_model rfl 2 (by decide) (hts (.fieldLink RX7 16 "SeedBattleModel" "wants" "[I") (List.mem_of_getElem? (i := 6) rfl)) rfl dX7_step_64 ?_
    refine lv_iload_n hx hb dX7_step_67 rfl (lv_at hl 3 rfl) ?_
    refine lv_iload_n hx hb dX7_step_68 rfl (lv_at hl 0 rfl) ?_
    refine lv_iconst (v := (-1)) hx hb dX7_step_69 (by decide) ?_
    refine lv_icmp_eq (tgt := 83) hx hb dX7_step_70 (by decide) (fun c => ?_) (fun c => ?_)
    · have hv := hv.1 c
      exact j_83 _ hK2 _ _ _ _  hv _ _ _ hE (lv_sub hl [1, 2, 3] rfl)
    · have hv := hv.2 c
      refine lv_aload_n hx hb dX7_step_73 rfl (lv_at hl 1 rfl) ?_
      refine lv_iload_n hx hb dX7_step_74 rfl (lv_at hl 0 rfl) ?_
      refine G_callVi hC (c_X7_groundOf l D cs az a t0 g _ hv) (cwV 1 hts gX7_step_X7_groundOf rfl rfl rfl (by decide +kernel) ⟨Nat.le_of_ble_eq_true rfl, Nat.le_of_ble_eq_true rfl⟩) f_model rfl rfl hl rfl (Nat.le_of_ble_eq_true rfl) dX7_step_75 hE (fun r3 g2 H locs hv hE => ?_)
      refine lv_bipush (v := 120) hx hb dX7_step_78 (by decide) ?_
      refine lv_icmp_ne (tgt := 92) hx hb dX7_step_80 (by decide) (fun c => ?_) (fun c => ?_)
      · have hv := hv.1 c
        refine lv_iload_n hx hb dX7_step_92 rfl (lv_at hl 0 rfl) ?_
        exact j_93 _ hK2 _ _ _ _ _  hv _ _ _ hE (lv_sub hl [1, 2, 3] rfl)
      · have hv := hv.2 c
        exact j_83 _ hK2 _ _ _ _  hv _ _ _ hE (lv_sub hl [1, 2, 3] rfl)
  have j_59 : ∀ (K2 : (Int32 × Int32 × St) → Prop), (∀ (v1 : Int32) (v2 : Int32) (g : St), K2 (v1, v2, g) → ∀ (H : Heap) (locs : List Loc) (ls : Array Slot), uE D 16 mA (mO a) cs a F s g H locs → lv_has ls 4 [(0, .ref (a 0)), (1, .int v1), (2, .int v2)] → W p l e rm_X7_step s m args below meth c H locs 0 0 (MQ below (va_Qv post (uB D (uW 16 mA (mO a) cs a)) F) args s 0 0 F) (F0 m 2 ls [])) → ∀ (v1 : Int32) (v2 : Int32) (t0 : Int32) (t1 : Int32) (g : St), J_X7_step_59 x1 post K2 v1 v2 t0 t1 g → ∀ (H : Heap) (locs : List Loc) (ls : Array Slot), uE D 16 mA (mO a) cs a F s g H locs → lv_has ls 4 [(0, .ref (a 0)), (1, .int v1), (2, .int v2)] → W p l e rm_X7_step s m args below meth c H locs 0 0 (MQ below (va_Qv post (uB D (uW 16 mA (mO a) cs a)) F) args s 0 0 F) (F0 m 59 ls [.int t0, .int t1]) := by
    intro K2 hK2 v1 v2 t0 t1 g  hv
    intro H locs ls hE hl
    unfold J_X7_step_59 at hv
    refine G_callSs hC.1 hC.2.2.2.2.1 (c_X7_moved l t1 t0 _ hv) (va_cwS 2 hts gX7_step_X7_moved rfl rfl rfl (by decide +kernel) ⟨Nat.le_of_ble_eq_true rfl, Nat.le_of_ble_eq_true rfl⟩) rfl hl rfl (Nat.le_of_ble_eq_true rfl) dX7_step_59 (Nat.zero_le _) (Nat.zero_le _) (fun r1 hv => ?_)
    exact j_62 _ hK2 _ _ _ _  hv _ _ _ hE (lv_sub hl [0, 1, 2] rfl)
  have j_30 : ∀ (K2 : (Int32 × Int32 × St) → Prop), (∀ (v1 : Int32) (v2 : Int32) (g : St), K2 (v1, v2, g) → ∀ (H : Heap) (locs : List Loc) (ls : Array Slot), uE D 16 mA (mO a) cs a F s g H locs → lv_has ls 4 [(0, .ref (a 0)), (1, .int v1), (2, .int v2)] → W p l e rm_X7_step s m args below meth c H locs 0 0 (MQ below (va_Qv post (uB D (uW 16 mA (mO a) cs a)) F) args s 0 0 F) (F0 m 2 ls [])) → ∀ (v1 : Int32) (v2 : Int32) (g : St), J_X7_step_30 x1 post K2 v1 v2 g → ∀ (H : Heap) (locs : List Loc) (ls : Array Slot), uE D 16 mA (mO a) cs a F s g H locs → lv_has ls 4 [(0, .ref (a 0)), (1, .int v1), (2, .int v2)] → W p l e rm_X7_step s m args below meth c H locs 0 0 (MQ below (va_Qv post (uB D (uW 16 mA (mO a) cs a)) F) args s 0 0 F) (F0 m 30 ls []) := by
    intro K2 hK2 v1 v2 g  hv
    intro H locs ls hE hl
    unfold J_X7_step_30 at hv
    refine lv_iconst (v := (-1)) hx hb dX7_step_30 (by decide) ?_
    refine lv_goto (tgt := 62) hx hb dX7_step_31 (by decide) ?_
    exact j_62 _ hK2 _ _ _ _  hv _ _ _ hE (lv_sub hl [0, 1, 2] rfl)
  have j_2 : ∀ (v1 : Int32) (v2 : Int32) (g : St), lpP (fun K2 (z : Int32 × Int32 × St) => J_X7_step_2 x1 post K2 z.1 z.2.1 z.2.2) (v1, v2, g) → ∀ (H : Heap) (locs : List Loc) (ls : Array Slot), uE D 16 mA (mO a) cs a F s g H locs → lv_has ls 4 [(0, .ref (a 0)), (1, .int v1), (2, .int v2)] → W p l e rm_X7_step s m args below meth c H locs 0 0 (MQ below (va_Qv post (uB D (uW 16 mA (mO a) cs a)) F) args s 0 0 F) (F0 m 2 ls []) := by
    intro  v1 v2 g  hv
    obtain ⟨nn, hv⟩ := hv
    induction nn generalizing v1 v2 g with
    | zero => exact False.elim hv
    | succ nn hK2 =>
      intro H locs ls hE hl
      have hv : J_X7_step_2 x1 post (itP _ nn) v1 v2 g := hv
      unfold J_X7_step_2 at hv
      refine lv_iload_n hx hb dX7_step_2 rfl (lv_at hl 2 rfl) ?_
      refine lv_aload_n hx hb dX7_step_3 rfl (lv_at hl 0 rfl) ?_
      refine G_get (v := .int (g.2 2)) hC hE (fun _ h => List.mem_cons_of_mem _ (List.mem_append_left _ (List.mem_append_right _ h))) f_model rfl 17 (by decide) (hts (.fieldLink RX7 65 "SeedBattleModel" "units" "I") (List.mem_of_getElem? (i := 1) rfl)) rfl dX7_step_4 ?_
      refine lv_icmp_ge (tgt := 100) hx hb dX7_step_7 (by decide) (fun c => ?_) (fun c => ?_)
      · have hv := hv.1 c
        refine lv_iconst (v := 0) hx hb dX7_step_100 (by decide) ?_
        refine lv_istore_n (lv' := [(2, .int 0), (0, .ref (a 0)), (1, .int v1)]) hx hb dX7_step_101 rfl hl (by decide) rfl (fun ls hl => ?_)
        exact j_102  _ _  hv _ _ _ hE (lv_sub hl [1, 0] rfl)
      · have hv := hv.2 c
        refine lv_aload_n hx hb dX7_step_10 rfl (lv_at hl 0 rfl) ?_
        refine G_get (v := .ref (a 2)) hC hE (fun _ h => List.mem_cons_of_mem _ (List.mem_append_left _ (List.mem_append_right _ h))) f_model rfl 1 (by decide) (hts (.fieldLink RX7 13 "SeedBattleModel" "cell" "[I") (List.mem_of_getElem? (i := 2) rfl)) rfl dX7_step_11 ?_
        refine lv_iload_n hx hb dX7_step_14 rfl (lv_at hl 2 rfl) ?_
        refine G_iald hC hE f_m_cell hv.1 dX7_step_15 ?_
        have hv := hv.2
        refine lv_iconst (v := (-1)) hx hb dX7_step_16 (by decide) ?_
        refine lv_icmp_eq (tgt := 30) hx hb dX7_step_17 (by decide) (fun c => ?_) (fun c => ?_)
        · have hv := hv.1 c
          exact j_30 _ hK2 _ _ _  hv _ _ _ hE (lv_sub hl [0, 1, 2] rfl)
        · have hv := hv.2 c
          refine lv_aload_n hx hb dX7_step_20 rfl (lv_at hl 0 rfl) ?_
          refine G_get (v := .ref (a 4)) hC hE (fun _ h => List.mem_cons_of_mem _ (List.mem_append_left _ (List.mem_append_right _ h))) f_model rfl 3 (by decide) (hts (.fieldLink RX7 19 "SeedBattleModel" "many" "[I") (List.mem_of_getElem? (i := 3) rfl)) rfl dX7_step_21 ?_
          refine lv_iload_n hx hb dX7_step_24 rfl (lv_at hl 2 rfl) ?_
          refine G_iald hC hE f_m_many hv.1 dX7_step_25 ?_
          have hv := hv.2
          refine lv_iload_n hx hb dX7_step_26 rfl (lv_at hl 1 rfl) ?_
          refine lv_icmp_gt (tgt := 34) hx hb dX7_step_27 (by decide) (fun c => ?_) (fun c => ?_)
          · have hv := hv.1 c
            refine lv_aload_n hx hb dX7_step_34 rfl (lv_at hl 0 rfl) ?_
            refine G_get (v := .ref (a 2)) hC hE (fun _ h => List.mem_cons_of_mem _ (List.mem_append_left _ (List.mem_append_right _ h))) f_model rfl 1 (by decide) (hts (.fieldLink RX7 13 "SeedBattleModel" "cell" "[I") (List.mem_of_getElem? (i := 2) rfl)) rfl dX7_step_35 ?_
            refine lv_iload_n hx hb dX7_step_38 rfl (lv_at hl 2 rfl) ?_
            refine G_iald hC hE f_m_cell hv.1 dX7_step_39 ?_
            have hv := hv.2
            refine lv_iload_n hx hb dX7_step_40 rfl (lv_at hl 1 rfl) ?_
            refine lv_if_ne (tgt := 53) hx hb dX7_step_41 (by decide) (fun c => ?_) (fun c => ?_)
            · have hv := hv.1 c
              refine lv_aload_n hx hb dX7_step_53 rfl (lv_at hl 0 rfl) ?_
              refine G_get (v := .ref (a 6)) hC hE (fun _ h => List.mem_cons_of_mem _ (List.mem_append_left _ (List.mem_append_right _ h))) f_model rfl 5 (by decide) (hts (.fieldLink RX7 25 "SeedBattleModel" "second" "[I") (List.mem_of_getElem? (i := 5) rfl)) rfl dX7_step_54 ?_
              refine lv_iload_n hx hb dX7_step_57 rfl (lv_at hl 2 rfl) ?_
              refine G_iald hC hE f_m_second hv.1 dX7_step_58 ?_
              have hv := hv.2
              exact j_59 _ hK2 _ _ _ _ _  hv _ _ _ hE (lv_sub hl [0, 1, 2] rfl)
            · have hv := hv.2 c
              refine lv_aload_n hx hb dX7_step_44 rfl (lv_at hl 0 rfl) ?_
              refine G_get (v := .ref (a 5)) hC hE (fun _ h => List.mem_cons_of_mem _ (List.mem_append_left _ (List.mem_append_right _ h))) f_model rfl 4 (by decide) (hts (.fieldLink RX7 22 "SeedBattleModel" "first" "[I") (List.mem_of_getElem? (i := 4) rfl)) rfl dX7_step_45 ?_
              refine lv_iload_n hx hb dX7_step_48 rfl (lv_at hl 2 rfl) ?_
              refine G_iald hC hE f_m_first hv.1 dX7_step_49 ?_
              have hv := hv.2
              refine lv_goto (tgt := 59) hx hb dX7_step_50 (by decide) ?_
              exact j_59 _ hK2 _ _ _ _ _  hv _ _ _ hE (lv_sub hl [0, 1, 2] rfl)
          · have hv := hv.2 c
            exact j_30 _ hK2 _ _ _  hv _ _ _ hE (lv_sub hl [0, 1, 2] rfl)
  refine lv_iconst (v := 0) hx hb dX7_step_0 (by decide) ?_
  refine lv_istore_n (lv' := [(2, .int 0), (0, .ref (a 0)), (1, .int x1)]) hx hb dX7_step_1 rfl hl (by decide) rfl (fun ls hl => ?_)
  exact j_2  _ _ _  hv _ _ _ hE (lv_sub hl [1, 2, 0] rfl)
