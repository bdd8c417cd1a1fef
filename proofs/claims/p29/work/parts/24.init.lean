/-! PART 24: constructors -/
theorem sA_sA (g : St) (k : Nat) (f f' : Nat → Int32) : sA (sA g k f) k f' = sA g k f' := by
  unfold sA
  refine Prod.ext (funext fun j => ?_) rfl
  dsimp only
  split <;> rfl
theorem sA_at (g : St) (k : Nat) (f : Nat → Int32) : (sA g k f).1 k = f := by simp [sA]
theorem sA_self (g : St) (k : Nat) : sA g k (g.1 k) = g := by
  unfold sA
  refine Prod.ext (funext fun j => ?_) rfl
  dsimp only
  split
  · next h => rw [h]
  · rfl
theorem fill_sp {k N : Nat} {v : Int32} {g : St} {post : St → Prop} (hN : N < 2 ^ 31) (h : post (sA g k (fun j => if j < N then v else g.1 k j))) : V_J7_fill_53178 k N v g post := by
  unfold V_J7_fill_53178
  refine lp_by (I := fun z => z.1 = v ∧ z.2.2.1 = nI N ∧ ∃ i, i ≤ N ∧ z.2.1 = nI i ∧ z.2.2.2 = sA g k (fun j => if j < i then v else g.1 k j)) (μ := fun z => N - z.2.1.toNatClampNeg) ?_ ?_
  · rintro K ⟨v1, v2, v3, g'⟩ ⟨h1, h2, i, hi, h3, h4⟩ hK
    dsimp only at h1 h2 h3 h4
    subst h1 h2 h3 h4
    refine ⟨fun c => ?_, fun c => ?_⟩
    · have hi2 : i = N := Nat.le_antisymm hi ((nI_leI hN (Nat.lt_of_le_of_lt hi hN)).mp c)
      subst hi2
      exact h
    · have hlt : i < N := Nat.lt_of_not_le (fun q => c (nI_le q (Nat.lt_of_le_of_lt hi hN)))
      refine ⟨vp_in_nI hlt hN, ?_⟩
      refine hK _ ⟨rfl, rfl, i + 1, hlt, nI_1 i, ?_⟩ ?_
      · dsimp only
        rw [nI_clamp (by omega), sA_sA, sA_at]
        congr 1
        funext j
        show (if j = i then v1 else if j < i then v1 else g.1 k j) = if j < i + 1 then v1 else g.1 k j
        by_cases hj : j = i
        · subst hj; simp
        · by_cases hj2 : j < i
          · rw [if_neg hj, if_pos hj2, if_pos (by omega)]
          · rw [if_neg hj, if_neg hj2, if_neg (by omega)]
      · dsimp only
        rw [nI_1, nI_clamp (by omega), nI_clamp (by omega)]
        omega
  · refine ⟨rfl, rfl, 0, Nat.zero_le _, nI_0.symm, ?_⟩
    dsimp only
    simp only [Nat.not_lt_zero, if_false]
    exact (sA_self g k).symm
theorem fill_0 (v : Int32) {N : Nat} (hN : N < 2 ^ 31) : V_J7_fill_53178 0 N v ((fun _ => fun _ => 0, fun _ => 0) : St) (fun g' => g'.1 0 = fun j => if j < N then v else 0) := by
  refine fill_sp hN ?_
  rw [sA_at]
abbrev rm_X3_init : Room := { frames := 1, cells := 1, slots := 64, locals := 28 }
set_option maxHeartbeats 4000000 in
set_option maxRecDepth 100000 in
theorem c_X3_init (l : Launch) (D : va_G) (cs az : Nat → Nat) (h0 : Nat) : uN l yX3_init wsX3_init rm_X3_init D cs az [(h0, .inr (5, [.null]))] [.ref h0] 1 64 (fun _ : Nat → Nat => True) (fun u => [(h0, .inr (5, [.ref (u 0)])), ((u 0), .inl (cs 1, 64, .inl (fun _ => 0)))]) := by
  refine u_ofN (cc := cX3_init) (maxL := 1) rfl (by decide) rfl (Nat.le_of_ble_eq_true rfl) ?_
  intro p e s m args below meth c F ls hC hin hr hk hl hP hD hS
  have hx := hC.1.1; have hb := hC.1.2.1; have hml := hC.1.2.2.1; have hts := hC.1.2.2.2.2
  have hown : s.vm.findClass RX3 = some m.cls := hC.1.2.2.2.1
  have hl : lv_has ls 1 [(0, .ref h0)] := hl
  refine lv_aload_n hx hb dX3_init_0 rfl (lv_at hl 0 rfl) ?_
  refine W.objInit hx hb hown (hts (.methodLink RX3 3 objectInit) (List.mem_of_getElem? (i := 1) rfl)) (hts (.instanceMethod objectInit) (List.mem_of_getElem? (i := 2) rfl)) (hts (.code objectInit ⟨#[0xb1]⟩ 1 none) (List.mem_of_getElem? (i := 3) rfl)) rfl (hl.1.trans hml.symm) rfl dX3_init_1 (Nat.le_of_ble_eq_true rfl) (Nat.le_of_ble_eq_true rfl) ?_
  refine W.eq (g2 := F0 m 4 ls []) rfl ?_
  refine lv_aload_n hx hb dX3_init_4 rfl (lv_at hl 0 rfl) ?_
  refine lv_bipush (v := 64) hx hb dX3_init_5 (by decide) ?_
  refine N_newa hC hP hD hS (atype := .char) (hts (.arrayClass .char) (List.mem_of_getElem? (i := 4) rfl)) (ty := .char) rfl (t := 1) rfl (N' := 64) (a0 := (64, .inl (fun _ => 0))) (fun _ => rfl) (by decide) (by decide) (by decide) (Nat.le_of_ble_eq_true rfl) (Nat.le_of_ble_eq_true rfl) dX3_init_7 (fun q1 H hP hD hS => ?_)
  refine W.widen (k := 1) (n := 64) (Nat.le_of_ble_eq_true rfl) (Nat.le_of_ble_eq_true rfl) ?_
  have hP : va_P D vwCl [(h0, .inr (5, [.null])), (q1, .inl (cs 1, 64, .inl (fun _ => 0)))] H := hP
  have hD : va_D F [(h0, .inr (5, [.null])), (q1, .inl (cs 1, 64, .inl (fun _ => 0)))] := hD
  refine va_putF (D := D) (ci := 5) (v := .ref q1) (ty := (.array (.char))) (C := RX3) (T := TX3) (N := 1) hx hb hts (fun _ h => List.mem_cons_of_mem _ (List.mem_append_right _ h)) tyX3 tyX3_ok nmX3 hown hC.2.1 hP hD hS 0 rfl rfl 0 (by decide) (hts (.fieldLink RX3 9 "SeedBattle$Land" "grounds" "[C") (List.mem_of_getElem? (i := 5) rfl)) (fun _ h9 => h9) rfl hin rfl (by decide +kernel) rfl rfl (Nat.le_of_ble_eq_true rfl) dX3_init_9 (fun H locs hP hD hS => ?_)
  have hP : va_P D vwCl [(h0, .inr (5, [.ref q1])), (q1, .inl (cs 1, 64, .inl (fun _ => 0)))] H := hP
  have hD : va_D F [(h0, .inr (5, [.ref q1])), (q1, .inl (cs 1, 64, .inl (fun _ => 0)))] := hD
  have hP9 := hP.sub (ws' := [(h0, .inr (5, [.ref q1])), (q1, .inl (cs 1, 64, .inl (fun _ => 0)))]) [0, 1] rfl
  have hD9 := hD.sub (ws' := [(h0, .inr (5, [.ref q1])), (q1, .inl (cs 1, 64, .inl (fun _ => 0)))]) [0, 1] (by decide) rfl
  exact W.vret hx hb hr (fun t ht hW => ⟨⟨(fun k => ([q1] : List Nat).getD k 0), rfl, trivial, by rw [ht]; exact hP9, hD9⟩, hS.F ht⟩) hS.2.2 dX3_init_12 hk
abbrev rm_X5_init : Room := { frames := 1, cells := 4, slots := 96, locals := 28 }
set_option maxHeartbeats 4000000 in
set_option maxRecDepth 100000 in
theorem c_X5_init (l : Launch) (D : va_G) (cs az : Nat → Nat) (h0 : Nat) : uN l yX5_init wsX5_init rm_X5_init D cs az [(h0, .inr (7, [.null, .null, .null, .null, .int 0]))] [.ref h0] 4 96 (fun _ : Nat → Nat => True) (fun u => [(h0, .inr (7, [.ref (u 0), .ref (u 1), .ref (u 2), .ref (u 3), .int 0])), ((u 0), .inl (cs 0, 24, .inl (fun _ => 0))), ((u 1), .inl (cs 0, 24, .inl (fun _ => 0))), ((u 2), .inl (cs 0, 24, .inl (fun _ => 0))), ((u 3), .inl (cs 0, 24, .inl (fun _ => 0)))]) := by
  refine u_ofN (cc := cX5_init) (maxL := 1) rfl (by decide) rfl (Nat.le_of_ble_eq_true rfl) ?_
  intro p e s m args below meth c F ls hC hin hr hk hl hP hD hS
  have hx := hC.1.1; have hb := hC.1.2.1; have hml := hC.1.2.2.1; have hts := hC.1.2.2.2.2
  have hown : s.vm.findClass RX5 = some m.cls := hC.1.2.2.2.1
  have hl : lv_has ls 1 [(0, .ref h0)] := hl
  refine lv_aload_n hx hb dX5_init_0 rfl (lv_at hl 0 rfl) ?_
  refine W.objInit hx hb hown (hts (.methodLink RX5 3 objectInit) (List.mem_of_getElem? (i := 1) rfl)) (hts (.instanceMethod objectInit) (List.mem_of_getElem? (i := 2) rfl)) (hts (.code objectInit ⟨#[0xb1]⟩ 1 none) (List.mem_of_getElem? (i := 3) rfl)) rfl (hl.1.trans hml.symm) rfl dX5_init_1 (Nat.le_of_ble_eq_true rfl) (Nat.le_of_ble_eq_true rfl) ?_
  refine W.eq (g2 := F0 m 4 ls []) rfl ?_
  refine lv_aload_n hx hb dX5_init_4 rfl (lv_at hl 0 rfl) ?_
  refine lv_bipush (v := 24) hx hb dX5_init_5 (by decide) ?_
  refine N_newa hC hP hD hS (atype := .int) (hts (.arrayClass .int) (List.mem_of_getElem? (i := 4) rfl)) (ty := .int) rfl (t := 0) rfl (N' := 24) (a0 := (24, .inl (fun _ => 0))) (fun _ => rfl) (by decide) (by decide) (by decide) (Nat.le_of_ble_eq_true rfl) (Nat.le_of_ble_eq_true rfl) dX5_init_7 (fun q1 H hP hD hS => ?_)
  refine W.widen (k := 1) (n := 24) (Nat.le_of_ble_eq_true rfl) (Nat.le_of_ble_eq_true rfl) ?_
  have hP : va_P D vwCl [(h0, .inr (7, [.null, .null, .null, .null, .int 0])), (q1, .inl (cs 0, 24, .inl (fun _ => 0)))] H := hP
  have hD : va_D F [(h0, .inr (7, [.null, .null, .null, .null, .int 0])), (q1, .inl (cs 0, 24, .inl (fun _ => 0)))] := hD
  refine va_putF (D := D) (ci := 7) (v := .ref q1) (ty := (.array (.int))) (C := RX5) (T := TX5) (N := 5) hx hb hts (fun _ h => List.mem_cons_of_mem _ (List.mem_append_right _ h)) tyX5 tyX5_ok nmX5 hown hC.2.1 hP hD hS 0 rfl rfl 0 (by decide) (hts (.fieldLink RX5 9 "SeedBattle$Units" "owners" "[I") (List.mem_of_getElem? (i := 5) rfl)) (fun _ h9 => h9) rfl hin rfl (by decide +kernel) rfl rfl (Nat.le_of_ble_eq_true rfl) dX5_init_9 (fun H locs hP hD hS => ?_)
  have hP : va_P D vwCl [(h0, .inr (7, [.ref q1, .null, .null, .null, .int 0])), (q1, .inl (cs 0, 24, .inl (fun _ => 0)))] H := hP
  have hD : va_D F [(h0, .inr (7, [.ref q1, .null, .null, .null, .int 0])), (q1, .inl (cs 0, 24, .inl (fun _ => 0)))] := hD
  refine lv_aload_n hx hb dX5_init_12 rfl (lv_at hl 0 rfl) ?_
  refine lv_bipush (v := 24) hx hb dX5_init_13 (by decide) ?_
  refine N_newa hC hP hD hS (atype := .int) (hts (.arrayClass .int) (List.mem_of_getElem? (i := 4) rfl)) (ty := .int) rfl (t := 0) rfl (N' := 24) (a0 := (24, .inl (fun _ => 0))) (fun _ => rfl) (by decide) (by decide) (by decide) (Nat.le_of_ble_eq_true rfl) (Nat.le_of_ble_eq_true rfl) dX5_init_15 (fun q2 H hP hD hS => ?_)
  refine W.widen (k := 2) (n := 48) (Nat.le_of_ble_eq_true rfl) (Nat.le_of_ble_eq_true rfl) ?_
  have hP : va_P D vwCl [(h0, .inr (7, [.ref q1, .null, .null, .null, .int 0])), (q1, .inl (cs 0, 24, .inl (fun _ => 0))), (q2, .inl (cs 0, 24, .inl (fun _ => 0)))] H := hP
  have hD : va_D F [(h0, .inr (7, [.ref q1, .null, .null, .null, .int 0])), (q1, .inl (cs 0, 24, .inl (fun _ => 0))), (q2, .inl (cs 0, 24, .inl (fun _ => 0)))] := hD
  refine va_putF (D := D) (ci := 7) (v := .ref q2) (ty := (.array (.int))) (C := RX5) (T := TX5) (N := 5) hx hb hts (fun _ h => List.mem_cons_of_mem _ (List.mem_append_right _ h)) tyX5 tyX5_ok nmX5 hown hC.2.1 hP hD hS 0 rfl rfl 1 (by decide) (hts (.fieldLink RX5 15 "SeedBattle$Units" "kinds" "[I") (List.mem_of_getElem? (i := 6) rfl)) (fun _ h9 => h9) rfl hin rfl (by decide +kernel) rfl rfl (Nat.le_of_ble_eq_true rfl) dX5_init_17 (fun H locs hP hD hS => ?_)
  have hP : va_P D vwCl [(h0, .inr (7, [.ref q1, .ref q2, .null, .null, .int 0])), (q1, .inl (cs 0, 24, .inl (fun _ => 0))), (q2, .inl (cs 0, 24, .inl (fun _ => 0)))] H := hP
  have hD : va_D F [(h0, .inr (7, [.ref q1, .ref q2, .null, .null, .int 0])), (q1, .inl (cs 0, 24, .inl (fun _ => 0))), (q2, .inl (cs 0, 24, .inl (fun _ => 0)))] := hD
  refine lv_aload_n hx hb dX5_init_20 rfl (lv_at hl 0 rfl) ?_
  refine lv_bipush (v := 24) hx hb dX5_init_21 (by decide) ?_
  refine N_newa hC hP hD hS (atype := .int) (hts (.arrayClass .int) (List.mem_of_getElem? (i := 4) rfl)) (ty := .int) rfl (t := 0) rfl (N' := 24) (a0 := (24, .inl (fun _ => 0))) (fun _ => rfl) (by decide) (by decide) (by decide) (Nat.le_of_ble_eq_true rfl) (Nat.le_of_ble_eq_true rfl) dX5_init_23 (fun q3 H hP hD hS => ?_)
  refine W.widen (k := 3) (n := 72) (Nat.le_of_ble_eq_true rfl) (Nat.le_of_ble_eq_true rfl) ?_
  have hP : va_P D vwCl [(h0, .inr (7, [.ref q1, .ref q2, .null, .null, .int 0])), (q1, .inl (cs 0, 24, .inl (fun _ => 0))), (q2, .inl (cs 0, 24, .inl (fun _ => 0))), (q3, .inl (cs 0, 24, .inl (fun _ => 0)))] H := hP
  have hD : va_D F [(h0, .inr (7, [.ref q1, .ref q2, .null, .null, .int 0])), (q1, .inl (cs 0, 24, .inl (fun _ => 0))), (q2, .inl (cs 0, 24, .inl (fun _ => 0))), (q3, .inl (cs 0, 24, .inl (fun _ => 0)))] := hD
  refine va_putF (D := D) (ci := 7) (v := .ref q3) (ty := (.array (.int))) (C := RX5) (T := TX5) (N := 5) hx hb hts (fun _ h => List.mem_cons_of_mem _ (List.mem_append_right _ h)) tyX5 tyX5_ok nmX5 hown hC.2.1 hP hD hS 0 rfl rfl 2 (by decide) (hts (.fieldLink RX5 18 "SeedBattle$Units" "starts" "[I") (List.mem_of_getElem? (i := 7) rfl)) (fun _ h9 => h9) rfl hin rfl (by decide +kernel) rfl rfl (Nat.le_of_ble_eq_true rfl) dX5_init_25 (fun H locs hP hD hS => ?_)
  have hP : va_P D vwCl [(h0, .inr (7, [.ref q1, .ref q2, .ref q3, .null, .int 0])), (q1, .inl (cs 0, 24, .inl (fun _ => 0))), (q2, .inl (cs 0, 24, .inl (fun _ => 0))), (q3, .inl (cs 0, 24, .inl (fun _ => 0)))] H := hP
  have hD : va_D F [(h0, .inr (7, [.ref q1, .ref q2, .ref q3, .null, .int 0])), (q1, .inl (cs 0, 24, .inl (fun _ => 0))), (q2, .inl (cs 0, 24, .inl (fun _ => 0))), (q3, .inl (cs 0, 24, .inl (fun _ => 0)))] := hD
  refine lv_aload_n hx hb dX5_init_28 rfl (lv_at hl 0 rfl) ?_
  refine lv_bipush (v := 24) hx hb dX5_init_29 (by decide) ?_
  refine N_newa hC hP hD hS (atype := .int) (hts (.arrayClass .int) (List.mem_of_getElem? (i := 4) rfl)) (ty := .int) rfl (t := 0) rfl (N' := 24) (a0 := (24, .inl (fun _ => 0))) (fun _ => rfl) (by decide) (by decide) (by decide) (Nat.le_of_ble_eq_true rfl) (Nat.le_of_ble_eq_true rfl) dX5_init_31 (fun q4 H hP hD hS => ?_)
  refine W.widen (k := 4) (n := 96) (Nat.le_of_ble_eq_true rfl) (Nat.le_of_ble_eq_true rfl) ?_
  have hP : va_P D vwCl [(h0, .inr (7, [.ref q1, .ref q2, .ref q3, .null, .int 0])), (q1, .inl (cs 0, 24, .inl (fun _ => 0))), (q2, .inl (cs 0, 24, .inl (fun _ => 0))), (q3, .inl (cs 0, 24, .inl (fun _ => 0))), (q4, .inl (cs 0, 24, .inl (fun _ => 0)))] H := hP
  have hD : va_D F [(h0, .inr (7, [.ref q1, .ref q2, .ref q3, .null, .int 0])), (q1, .inl (cs 0, 24, .inl (fun _ => 0))), (q2, .inl (cs 0, 24, .inl (fun _ => 0))), (q3, .inl (cs 0, 24, .inl (fun _ => 0))), (q4, .inl (cs 0, 24, .inl (fun _ => 0)))] := hD
  refine va_putF (D := D) (ci := 7) (v := .ref q4) (ty := (.array (.int))) (C := RX5) (T := TX5) (N := 5) hx hb hts (fun _ h => List.mem_cons_of_mem _ (List.mem_append_right _ h)) tyX5 tyX5_ok nmX5 hown hC.2.1 hP hD hS 0 rfl rfl 3 (by decide) (hts (.fieldLink RX5 21 "SeedBattle$Units" "places" "[I") (List.mem_of_getElem? (i := 8) rfl)) (fun _ h9 => h9) rfl hin rfl (by decide +kernel) rfl rfl (Nat.le_of_ble_eq_true rfl) dX5_init_33 (fun H locs hP hD hS => ?_)
  have hP : va_P D vwCl [(h0, .inr (7, [.ref q1, .ref q2, .ref q3, .ref q4, .int 0])), (q1, .inl (cs 0, 24, .inl (fun _ => 0))), (q2, .inl (cs 0, 24, .inl (fun _ => 0))), (q3, .inl (cs 0, 24, .inl (fun _ => 0))), (q4, .inl (cs 0, 24, .inl (fun _ => 0)))] H := hP
  have hD : va_D F [(h0, .inr (7, [.ref q1, .ref q2, .ref q3, .ref q4, .int 0])), (q1, .inl (cs 0, 24, .inl (fun _ => 0))), (q2, .inl (cs 0, 24, .inl (fun _ => 0))), (q3, .inl (cs 0, 24, .inl (fun _ => 0))), (q4, .inl (cs 0, 24, .inl (fun _ => 0)))] := hD
  have hP9 := hP.sub (ws' := [(h0, .inr (7, [.ref q1, .ref q2, .ref q3, .ref q4, .int 0])), (q1, .inl (cs 0, 24, .inl (fun _ => 0))), (q2, .inl (cs 0, 24, .inl (fun _ => 0))), (q3, .inl (cs 0, 24, .inl (fun _ => 0))), (q4, .inl (cs 0, 24, .inl (fun _ => 0)))]) [0, 1, 2, 3, 4] rfl
  have hD9 := hD.sub (ws' := [(h0, .inr (7, [.ref q1, .ref q2, .ref q3, .ref q4, .int 0])), (q1, .inl (cs 0, 24, .inl (fun _ => 0))), (q2, .inl (cs 0, 24, .inl (fun _ => 0))), (q3, .inl (cs 0, 24, .inl (fun _ => 0))), (q4, .inl (cs 0, 24, .inl (fun _ => 0)))]) [0, 1, 2, 3, 4] (by decide) rfl
  exact W.vret hx hb hr (fun t ht hW => ⟨⟨(fun k => ([q1, q2, q3, q4] : List Nat).getD k 0), rfl, trivial, by rw [ht]; exact hP9, hD9⟩, hS.F ht⟩) hS.2.2 dX5_init_36 hk
abbrev rm_X1_init : Room := { frames := 2, cells := 9, slots := 194, locals := 56 }
set_option maxHeartbeats 4000000 in
set_option maxRecDepth 100000 in
theorem c_X1_init (l : Launch) (D : va_G) (cs az : Nat → Nat) (h0 : Nat) : uN l yX1_init wsX1_init rm_X1_init D cs az [(h0, .inr (3, [.null, .null, .null, .null]))] [.ref h0] 9 194 (fun _ : Nat → Nat => True) (fun u => [(h0, .inr (3, [.ref (u 0), .ref (u 2), .ref (u 7), .ref (u 8)])), ((u 0), .inr (5, [.ref (u 1)])), ((u 1), .inl (cs 1, 64, .inl (fun _ => 0))), ((u 2), .inr (7, [.ref (u 3), .ref (u 4), .ref (u 5), .ref (u 6), .int 0])), ((u 3), .inl (cs 0, 24, .inl (fun _ => 0))), ((u 4), .inl (cs 0, 24, .inl (fun _ => 0))), ((u 5), .inl (cs 0, 24, .inl (fun _ => 0))), ((u 6), .inl (cs 0, 24, .inl (fun _ => 0))), ((u 7), .inl (cs 0, 24, .inl (fun _ => 0))), ((u 8), .inl (cs 0, 4, .inl (fun _ => 0)))]) := by
  refine u_ofN (cc := cX1_init) (maxL := 1) rfl (by decide) rfl (Nat.le_of_ble_eq_true rfl) ?_
  intro p e s m args below meth c F ls hC hin hr hk hl hP hD hS
  have hx := hC.1.1; have hb := hC.1.2.1; have hml := hC.1.2.2.1; have hts := hC.1.2.2.2.2
  have hown : s.vm.findClass RX1 = some m.cls := hC.1.2.2.2.1
  have hl : lv_has ls 1 [(0, .ref h0)] := hl
  refine lv_aload_n hx hb dX1_init_0 rfl (lv_at hl 0 rfl) ?_
  refine W.objInit hx hb hown (hts (.methodLink RX1 3 objectInit) (List.mem_of_getElem? (i := 1) rfl)) (hts (.instanceMethod objectInit) (List.mem_of_getElem? (i := 2) rfl)) (hts (.code objectInit ⟨#[0xb1]⟩ 1 none) (List.mem_of_getElem? (i := 3) rfl)) rfl (hl.1.trans hml.symm) rfl dX1_init_1 (Nat.le_of_ble_eq_true rfl) (Nat.le_of_ble_eq_true rfl) ?_
  refine W.eq (g2 := F0 m 4 ls []) rfl ?_
  refine lv_aload_n hx hb dX1_init_4 rfl (lv_at hl 0 rfl) ?_
  refine va_new (ci := 5) (fs := [.null]) (C := RX3) (T := TX3) (N := 1) hx hb hts (fun _ h => List.mem_cons_of_mem _ (List.mem_append_left _ (List.mem_append_left _ (List.mem_append_right _ h)))) tyX3 tyX3_ok hown (hts (.classLink RX1 9 RX3) (List.mem_of_getElem? (i := 4) rfl)) (hts (.instantiable RX3 1) (List.mem_of_getElem? (i := 5) rfl)) (hts (.initialized RX3) (List.mem_of_getElem? (i := 6) rfl)) hC.2.1 hP hD hS hC.2.2.1 rfl (fun j hj => by rcases (show j = 0 by omega) with rfl <;> rfl) (Nat.le_of_ble_eq_true rfl) (Nat.le_of_ble_eq_true rfl) dX1_init_5 (fun q1 H hP hD hS => ?_)
  refine W.widen (k := 1) (n := 1) (Nat.le_of_ble_eq_true rfl) (Nat.le_of_ble_eq_true rfl) ?_
  have hP : va_P D vwCl [(h0, .inr (3, [.null, .null, .null, .null])), (q1, .inr (5, [.null]))] H := hP
  have hD : va_D F [(h0, .inr (3, [.null, .null, .null, .null])), (q1, .inr (5, [.null]))] := hD
  refine lv_dup hx hb dX1_init_8 rfl ?_
  refine N_callIN hC hP hD hS (wc := [(q1, .inr (5, [.null]))]) (wr := [(h0, .inr (3, [.null, .null, .null, .null]))]) [1] [0] rfl rfl rfl rfl (by decide) (c_X3_init l D cs az q1) ⟨va_cnB 0 hts gX1_init_X3_init_n11 rfl rfl rfl (hC.2.2.2.2.1 _ (List.mem_of_getElem? (i := 19) rfl)) (hts _ (List.mem_of_getElem? (i := 6) rfl)) (by decide +kernel) ⟨(Nat.le_of_ble_eq_true rfl), (Nat.le_of_ble_eq_true rfl)⟩, rfl, hts _ (List.mem_of_getElem? (i := 15) rfl)⟩ rfl hl rfl (Nat.le_of_ble_eq_true rfl) dX1_init_9 (Nat.le_of_ble_eq_true rfl) (Nat.le_of_ble_eq_true rfl) (fun u2 H locs _ hP hD hS => ?_)
  refine W.widen (k := 2) (n := 65) (Nat.le_of_ble_eq_true rfl) (Nat.le_of_ble_eq_true rfl) ?_
  have hP : va_P D vwCl [(h0, .inr (3, [.null, .null, .null, .null])), (q1, .inr (5, [.ref (u2 0)])), ((u2 0), .inl (cs 1, 64, .inl (fun _ => 0)))] H := hP
  have hD : va_D F [(h0, .inr (3, [.null, .null, .null, .null])), (q1, .inr (5, [.ref (u2 0)])), ((u2 0), .inl (cs 1, 64, .inl (fun _ => 0)))] := hD
  refine va_putF (D := D) (ci := 3) (v := .ref q1) (ty := (.object "SeedBattle$Land")) (C := RX1) (T := TX1) (N := 4) hx hb hts (fun _ h => List.mem_cons_of_mem _ (List.mem_append_left _ (List.mem_append_right _ h))) tyX1 tyX1_ok nmX1 hown hC.2.1 hP hD hS 0 rfl rfl 0 (by decide) (hts (.fieldLink RX1 12 "SeedBattle$Field" "land" "LSeedBattle$Land;") (List.mem_of_getElem? (i := 7) rfl)) (fun _ h9 => h9) rfl hin rfl (by decide +kernel) rfl rfl (Nat.le_of_ble_eq_true rfl) dX1_init_12 (fun H locs hP hD hS => ?_)
  have hP : va_P D vwCl [(h0, .inr (3, [.ref q1, .null, .null, .null])), (q1, .inr (5, [.ref (u2 0)])), ((u2 0), .inl (cs 1, 64, .inl (fun _ => 0)))] H := hP
  have hD : va_D F [(h0, .inr (3, [.ref q1, .null, .null, .null])), (q1, .inr (5, [.ref (u2 0)])), ((u2 0), .inl (cs 1, 64, .inl (fun _ => 0)))] := hD
  refine lv_aload_n hx hb dX1_init_15 rfl (lv_at hl 0 rfl) ?_
  refine va_new (ci := 7) (fs := [.null, .null, .null, .null, .int 0]) (C := RX5) (T := TX5) (N := 5) hx hb hts (fun _ h => List.mem_cons_of_mem _ (List.mem_append_right _ h)) tyX5 tyX5_ok hown (hts (.classLink RX1 18 RX5) (List.mem_of_getElem? (i := 8) rfl)) (hts (.instantiable RX5 5) (List.mem_of_getElem? (i := 9) rfl)) (hts (.initialized RX5) (List.mem_of_getElem? (i := 10) rfl)) hC.2.1 hP hD hS hC.2.2.1 rfl (fun j hj => by rcases (show j = 0 ∨ j = 1 ∨ j = 2 ∨ j = 3 ∨ j = 4 by omega) with rfl | rfl | rfl | rfl | rfl <;> rfl) (Nat.le_of_ble_eq_true rfl) (Nat.le_of_ble_eq_true rfl) dX1_init_16 (fun q3 H hP hD hS => ?_)
  refine W.widen (k := 3) (n := 70) (Nat.le_of_ble_eq_true rfl) (Nat.le_of_ble_eq_true rfl) ?_
  have hP : va_P D vwCl [(h0, .inr (3, [.ref q1, .null, .null, .null])), (q1, .inr (5, [.ref (u2 0)])), ((u2 0), .inl (cs 1, 64, .inl (fun _ => 0))), (q3, .inr (7, [.null, .null, .null, .null, .int 0]))] H := hP
  have hD : va_D F [(h0, .inr (3, [.ref q1, .null, .null, .null])), (q1, .inr (5, [.ref (u2 0)])), ((u2 0), .inl (cs 1, 64, .inl (fun _ => 0))), (q3, .inr (7, [.null, .null, .null, .null, .int 0]))] := hD
  refine lv_dup hx hb dX1_init_19 rfl ?_
  refine N_callIN hC hP hD hS (wc := [(q3, .inr (7, [.null, .null, .null, .null, .int 0]))]) (wr := [(h0, .inr (3, [.ref q1, .null, .null, .null])), (q1, .inr (5, [.ref (u2 0)])), ((u2 0), .inl (cs 1, 64, .inl (fun _ => 0)))]) [3] [0, 1, 2] rfl rfl rfl rfl (by decide) (c_X5_init l D cs az q3) ⟨va_cnB 0 hts gX1_init_X5_init_n20 rfl rfl rfl (hC.2.2.2.2.1 _ (List.mem_of_getElem? (i := 20) rfl)) (hts _ (List.mem_of_getElem? (i := 10) rfl)) (by decide +kernel) ⟨(Nat.le_of_ble_eq_true rfl), (Nat.le_of_ble_eq_true rfl)⟩, rfl, hts _ (List.mem_of_getElem? (i := 20) rfl)⟩ rfl hl rfl (Nat.le_of_ble_eq_true rfl) dX1_init_20 (Nat.le_of_ble_eq_true rfl) (Nat.le_of_ble_eq_true rfl) (fun u4 H locs _ hP hD hS => ?_)
  refine W.widen (k := 7) (n := 166) (Nat.le_of_ble_eq_true rfl) (Nat.le_of_ble_eq_true rfl) ?_
  have hP : va_P D vwCl [(h0, .inr (3, [.ref q1, .null, .null, .null])), (q1, .inr (5, [.ref (u2 0)])), ((u2 0), .inl (cs 1, 64, .inl (fun _ => 0))), (q3, .inr (7, [.ref (u4 0), .ref (u4 1), .ref (u4 2), .ref (u4 3), .int 0])), ((u4 0), .inl (cs 0, 24, .inl (fun _ => 0))), ((u4 1), .inl (cs 0, 24, .inl (fun _ => 0))), ((u4 2), .inl (cs 0, 24, .inl (fun _ => 0))), ((u4 3), .inl (cs 0, 24, .inl (fun _ => 0)))] H := hP
  have hD : va_D F [(h0, .inr (3, [.ref q1, .null, .null, .null])), (q1, .inr (5, [.ref (u2 0)])), ((u2 0), .inl (cs 1, 64, .inl (fun _ => 0))), (q3, .inr (7, [.ref (u4 0), .ref (u4 1), .ref (u4 2), .ref (u4 3), .int 0])), ((u4 0), .inl (cs 0, 24, .inl (fun _ => 0))), ((u4 1), .inl (cs 0, 24, .inl (fun _ => 0))), ((u4 2), .inl (cs 0, 24, .inl (fun _ => 0))), ((u4 3), .inl (cs 0, 24, .inl (fun _ => 0)))] := hD
  refine va_putF (D := D) (ci := 3) (v := .ref q3) (ty := (.object "SeedBattle$Units")) (C := RX1) (T := TX1) (N := 4) hx hb hts (fun _ h => List.mem_cons_of_mem _ (List.mem_append_left _ (List.mem_append_right _ h))) tyX1 tyX1_ok nmX1 hown hC.2.1 hP hD hS 0 rfl rfl 1 (by decide) (hts (.fieldLink RX1 21 "SeedBattle$Field" "units" "LSeedBattle$Units;") (List.mem_of_getElem? (i := 11) rfl)) (fun _ h9 => h9) rfl hin rfl (by decide +kernel) rfl rfl (Nat.le_of_ble_eq_true rfl) dX1_init_23 (fun H locs hP hD hS => ?_)
  have hP : va_P D vwCl [(h0, .inr (3, [.ref q1, .ref q3, .null, .null])), (q1, .inr (5, [.ref (u2 0)])), ((u2 0), .inl (cs 1, 64, .inl (fun _ => 0))), (q3, .inr (7, [.ref (u4 0), .ref (u4 1), .ref (u4 2), .ref (u4 3), .int 0])), ((u4 0), .inl (cs 0, 24, .inl (fun _ => 0))), ((u4 1), .inl (cs 0, 24, .inl (fun _ => 0))), ((u4 2), .inl (cs 0, 24, .inl (fun _ => 0))), ((u4 3), .inl (cs 0, 24, .inl (fun _ => 0)))] H := hP
  have hD : va_D F [(h0, .inr (3, [.ref q1, .ref q3, .null, .null])), (q1, .inr (5, [.ref (u2 0)])), ((u2 0), .inl (cs 1, 64, .inl (fun _ => 0))), (q3, .inr (7, [.ref (u4 0), .ref (u4 1), .ref (u4 2), .ref (u4 3), .int 0])), ((u4 0), .inl (cs 0, 24, .inl (fun _ => 0))), ((u4 1), .inl (cs 0, 24, .inl (fun _ => 0))), ((u4 2), .inl (cs 0, 24, .inl (fun _ => 0))), ((u4 3), .inl (cs 0, 24, .inl (fun _ => 0)))] := hD
  refine lv_aload_n hx hb dX1_init_26 rfl (lv_at hl 0 rfl) ?_
  refine lv_bipush (v := 24) hx hb dX1_init_27 (by decide) ?_
  refine N_newa hC hP hD hS (atype := .int) (hts (.arrayClass .int) (List.mem_of_getElem? (i := 12) rfl)) (ty := .int) rfl (t := 0) rfl (N' := 24) (a0 := (24, .inl (fun _ => 0))) (fun _ => rfl) (by decide) (by decide) (by decide) (Nat.le_of_ble_eq_true rfl) (Nat.le_of_ble_eq_true rfl) dX1_init_29 (fun q5 H hP hD hS => ?_)
  refine W.widen (k := 8) (n := 190) (Nat.le_of_ble_eq_true rfl) (Nat.le_of_ble_eq_true rfl) ?_
  have hP : va_P D vwCl [(h0, .inr (3, [.ref q1, .ref q3, .null, .null])), (q1, .inr (5, [.ref (u2 0)])), ((u2 0), .inl (cs 1, 64, .inl (fun _ => 0))), (q3, .inr (7, [.ref (u4 0), .ref (u4 1), .ref (u4 2), .ref (u4 3), .int 0])), ((u4 0), .inl (cs 0, 24, .inl (fun _ => 0))), ((u4 1), .inl (cs 0, 24, .inl (fun _ => 0))), ((u4 2), .inl (cs 0, 24, .inl (fun _ => 0))), ((u4 3), .inl (cs 0, 24, .inl (fun _ => 0))), (q5, .inl (cs 0, 24, .inl (fun _ => 0)))] H := hP
  have hD : va_D F [(h0, .inr (3, [.ref q1, .ref q3, .null, .null])), (q1, .inr (5, [.ref (u2 0)])), ((u2 0), .inl (cs 1, 64, .inl (fun _ => 0))), (q3, .inr (7, [.ref (u4 0), .ref (u4 1), .ref (u4 2), .ref (u4 3), .int 0])), ((u4 0), .inl (cs 0, 24, .inl (fun _ => 0))), ((u4 1), .inl (cs 0, 24, .inl (fun _ => 0))), ((u4 2), .inl (cs 0, 24, .inl (fun _ => 0))), ((u4 3), .inl (cs 0, 24, .inl (fun _ => 0))), (q5, .inl (cs 0, 24, .inl (fun _ => 0)))] := hD
  refine va_putF (D := D) (ci := 3) (v := .ref q5) (ty := (.array (.int))) (C := RX1) (T := TX1) (N := 4) hx hb hts (fun _ h => List.mem_cons_of_mem _ (List.mem_append_left _ (List.mem_append_right _ h))) tyX1 tyX1_ok nmX1 hown hC.2.1 hP hD hS 0 rfl rfl 2 (by decide) (hts (.fieldLink RX1 25 "SeedBattle$Field" "wants" "[I") (List.mem_of_getElem? (i := 13) rfl)) (fun _ h9 => h9) rfl hin rfl (by decide +kernel) rfl rfl (Nat.le_of_ble_eq_true rfl) dX1_init_31 (fun H locs hP hD hS => ?_)
  have hP : va_P D vwCl [(h0, .inr (3, [.ref q1, .ref q3, .ref q5, .null])), (q1, .inr (5, [.ref (u2 0)])), ((u2 0), .inl (cs 1, 64, .inl (fun _ => 0))), (q3, .inr (7, [.ref (u4 0), .ref (u4 1), .ref (u4 2), .ref (u4 3), .int 0])), ((u4 0), .inl (cs 0, 24, .inl (fun _ => 0))), ((u4 1), .inl (cs 0, 24, .inl (fun _ => 0))), ((u4 2), .inl (cs 0, 24, .inl (fun _ => 0))), ((u4 3), .inl (cs 0, 24, .inl (fun _ => 0))), (q5, .inl (cs 0, 24, .inl (fun _ => 0)))] H := hP
  have hD : va_D F [(h0, .inr (3, [.ref q1, .ref q3, .ref q5, .null])), (q1, .inr (5, [.ref (u2 0)])), ((u2 0), .inl (cs 1, 64, .inl (fun _ => 0))), (q3, .inr (7, [.ref (u4 0), .ref (u4 1), .ref (u4 2), .ref (u4 3), .int 0])), ((u4 0), .inl (cs 0, 24, .inl (fun _ => 0))), ((u4 1), .inl (cs 0, 24, .inl (fun _ => 0))), ((u4 2), .inl (cs 0, 24, .inl (fun _ => 0))), ((u4 3), .inl (cs 0, 24, .inl (fun _ => 0))), (q5, .inl (cs 0, 24, .inl (fun _ => 0)))] := hD
  refine lv_aload_n hx hb dX1_init_34 rfl (lv_at hl 0 rfl) ?_
  refine lv_iconst (v := 4) hx hb dX1_init_35 (by decide) ?_
  refine N_newa hC hP hD hS (atype := .int) (hts (.arrayClass .int) (List.mem_of_getElem? (i := 12) rfl)) (ty := .int) rfl (t := 0) rfl (N' := 4) (a0 := (4, .inl (fun _ => 0))) (fun _ => rfl) (by decide) (by decide) (by decide) (Nat.le_of_ble_eq_true rfl) (Nat.le_of_ble_eq_true rfl) dX1_init_36 (fun q6 H hP hD hS => ?_)
  refine W.widen (k := 9) (n := 194) (Nat.le_of_ble_eq_true rfl) (Nat.le_of_ble_eq_true rfl) ?_
  have hP : va_P D vwCl [(h0, .inr (3, [.ref q1, .ref q3, .ref q5, .null])), (q1, .inr (5, [.ref (u2 0)])), ((u2 0), .inl (cs 1, 64, .inl (fun _ => 0))), (q3, .inr (7, [.ref (u4 0), .ref (u4 1), .ref (u4 2), .ref (u4 3), .int 0])), ((u4 0), .inl (cs 0, 24, .inl (fun _ => 0))), ((u4 1), .inl (cs 0, 24, .inl (fun _ => 0))), ((u4 2), .inl (cs 0, 24, .inl (fun _ => 0))), ((u4 3), .inl (cs 0, 24, .inl (fun _ => 0))), (q5, .inl (cs 0, 24, .inl (fun _ => 0))), (q6, .inl (cs 0, 4, .inl (fun _ => 0)))] H := hP
  have hD : va_D F [(h0, .inr (3, [.ref q1, .ref q3, .ref q5, .null])), (q1, .inr (5, [.ref (u2 0)])), ((u2 0), .inl (cs 1, 64, .inl (fun _ => 0))), (q3, .inr (7, [.ref (u4 0), .ref (u4 1), .ref (u4 2), .ref (u4 3), .int 0])), ((u4 0), .inl (cs 0, 24, .inl (fun _ => 0))), ((u4 1), .inl (cs 0, 24, .inl (fun _ => 0))), ((u4 2), .inl (cs 0, 24, .inl (fun _ => 0))), ((u4 3), .inl (cs 0, 24, .inl (fun _ => 0))), (q5, .inl (cs 0, 24, .inl (fun _ => 0))), (q6, .inl (cs 0, 4, .inl (fun _ => 0)))] := hD
  refine va_putF (D := D) (ci := 3) (v := .ref q6) (ty := (.array (.int))) (C := RX1) (T := TX1) (N := 4) hx hb hts (fun _ h => List.mem_cons_of_mem _ (List.mem_append_left _ (List.mem_append_right _ h))) tyX1 tyX1_ok nmX1 hown hC.2.1 hP hD hS 0 rfl rfl 3 (by decide) (hts (.fieldLink RX1 29 "SeedBattle$Field" "powers" "[I") (List.mem_of_getElem? (i := 14) rfl)) (fun _ h9 => h9) rfl hin rfl (by decide +kernel) rfl rfl (Nat.le_of_ble_eq_true rfl) dX1_init_38 (fun H locs hP hD hS => ?_)
  have hP : va_P D vwCl [(h0, .inr (3, [.ref q1, .ref q3, .ref q5, .ref q6])), (q1, .inr (5, [.ref (u2 0)])), ((u2 0), .inl (cs 1, 64, .inl (fun _ => 0))), (q3, .inr (7, [.ref (u4 0), .ref (u4 1), .ref (u4 2), .ref (u4 3), .int 0])), ((u4 0), .inl (cs 0, 24, .inl (fun _ => 0))), ((u4 1), .inl (cs 0, 24, .inl (fun _ => 0))), ((u4 2), .inl (cs 0, 24, .inl (fun _ => 0))), ((u4 3), .inl (cs 0, 24, .inl (fun _ => 0))), (q5, .inl (cs 0, 24, .inl (fun _ => 0))), (q6, .inl (cs 0, 4, .inl (fun _ => 0)))] H := hP
  have hD : va_D F [(h0, .inr (3, [.ref q1, .ref q3, .ref q5, .ref q6])), (q1, .inr (5, [.ref (u2 0)])), ((u2 0), .inl (cs 1, 64, .inl (fun _ => 0))), (q3, .inr (7, [.ref (u4 0), .ref (u4 1), .ref (u4 2), .ref (u4 3), .int 0])), ((u4 0), .inl (cs 0, 24, .inl (fun _ => 0))), ((u4 1), .inl (cs 0, 24, .inl (fun _ => 0))), ((u4 2), .inl (cs 0, 24, .inl (fun _ => 0))), ((u4 3), .inl (cs 0, 24, .inl (fun _ => 0))), (q5, .inl (cs 0, 24, .inl (fun _ => 0))), (q6, .inl (cs 0, 4, .inl (fun _ => 0)))] := hD
  have hP9 := hP.sub (ws' := [(h0, .inr (3, [.ref q1, .ref q3, .ref q5, .ref q6])), (q1, .inr (5, [.ref (u2 0)])), ((u2 0), .inl (cs 1, 64, .inl (fun _ => 0))), (q3, .inr (7, [.ref (u4 0), .ref (u4 1), .ref (u4 2), .ref (u4 3), .int 0])), ((u4 0), .inl (cs 0, 24, .inl (fun _ => 0))), ((u4 1), .inl (cs 0, 24, .inl (fun _ => 0))), ((u4 2), .inl (cs 0, 24, .inl (fun _ => 0))), ((u4 3), .inl (cs 0, 24, .inl (fun _ => 0))), (q5, .inl (cs 0, 24, .inl (fun _ => 0))), (q6, .inl (cs 0, 4, .inl (fun _ => 0)))]) [0, 1, 2, 3, 4, 5, 6, 7, 8, 9] rfl
  have hD9 := hD.sub (ws' := [(h0, .inr (3, [.ref q1, .ref q3, .ref q5, .ref q6])), (q1, .inr (5, [.ref (u2 0)])), ((u2 0), .inl (cs 1, 64, .inl (fun _ => 0))), (q3, .inr (7, [.ref (u4 0), .ref (u4 1), .ref (u4 2), .ref (u4 3), .int 0])), ((u4 0), .inl (cs 0, 24, .inl (fun _ => 0))), ((u4 1), .inl (cs 0, 24, .inl (fun _ => 0))), ((u4 2), .inl (cs 0, 24, .inl (fun _ => 0))), ((u4 3), .inl (cs 0, 24, .inl (fun _ => 0))), (q5, .inl (cs 0, 24, .inl (fun _ => 0))), (q6, .inl (cs 0, 4, .inl (fun _ => 0)))]) [0, 1, 2, 3, 4, 5, 6, 7, 8, 9] (by decide) rfl
  exact W.vret hx hb hr (fun t ht hW => ⟨⟨(fun k => ([q1, (u2 0), q3, (u4 0), (u4 1), (u4 2), (u4 3), q5, q6] : List Nat).getD k 0), rfl, trivial, by rw [ht]; exact hP9, hD9⟩, hS.F ht⟩) hS.2.2 dX1_init_41 hk
abbrev rm_X4_init : Room := { frames := 1, cells := 2, slots := 4824, locals := 31 }
set_option maxHeartbeats 4000000 in
set_option maxRecDepth 100000 in
theorem c_X4_init (l : Launch) (D : va_G) (cs az : Nat → Nat) (h0 : Nat) : uN l yX4_init wsX4_init rm_X4_init D cs az [(h0, .inr (6, [.null, .null]))] [.ref h0] 2 4824 (fun _ : Nat → Nat => True) (fun u => [(h0, .inr (6, [.ref (u 0), .ref (u 1)])), ((u 0), .inl (cs 0, 4800, .inl (fun j => if j < 4800 then (-1) else 0))), ((u 1), .inl (cs 0, 24, .inl (fun _ => 0)))]) := by
  refine u_ofN (cc := cX4_init) (maxL := 1) rfl (by decide) rfl (Nat.le_of_ble_eq_true rfl) ?_
  intro p e s m args below meth c F ls hC hin hr hk hl hP hD hS
  have hx := hC.1.1; have hb := hC.1.2.1; have hml := hC.1.2.2.1; have hts := hC.1.2.2.2.2
  have hown : s.vm.findClass RX4 = some m.cls := hC.1.2.2.2.1
  have hl : lv_has ls 1 [(0, .ref h0)] := hl
  refine lv_aload_n hx hb dX4_init_0 rfl (lv_at hl 0 rfl) ?_
  refine W.objInit hx hb hown (hts (.methodLink RX4 3 objectInit) (List.mem_of_getElem? (i := 1) rfl)) (hts (.instanceMethod objectInit) (List.mem_of_getElem? (i := 2) rfl)) (hts (.code objectInit ⟨#[0xb1]⟩ 1 none) (List.mem_of_getElem? (i := 3) rfl)) rfl (hl.1.trans hml.symm) rfl dX4_init_1 (Nat.le_of_ble_eq_true rfl) (Nat.le_of_ble_eq_true rfl) ?_
  refine W.eq (g2 := F0 m 4 ls []) rfl ?_
  refine lv_aload_n hx hb dX4_init_4 rfl (lv_at hl 0 rfl) ?_
  refine lv_sipush (v := 4800) hx hb dX4_init_5 (by decide) ?_
  refine N_newa hC hP hD hS (atype := .int) (hts (.arrayClass .int) (List.mem_of_getElem? (i := 4) rfl)) (ty := .int) rfl (t := 0) rfl (N' := 4800) (a0 := (4800, .inl (fun _ => 0))) (fun _ => rfl) (by decide) (by decide) (by decide) (Nat.le_of_ble_eq_true rfl) (Nat.le_of_ble_eq_true rfl) dX4_init_8 (fun q1 H hP hD hS => ?_)
  refine W.widen (k := 1) (n := 4800) (Nat.le_of_ble_eq_true rfl) (Nat.le_of_ble_eq_true rfl) ?_
  have hP : va_P D vwCl [(h0, .inr (6, [.null, .null])), (q1, .inl (cs 0, 4800, .inl (fun _ => 0)))] H := hP
  have hD : va_D F [(h0, .inr (6, [.null, .null])), (q1, .inl (cs 0, 4800, .inl (fun _ => 0)))] := hD
  refine va_putF (D := D) (ci := 6) (v := .ref q1) (ty := (.array (.int))) (C := RX4) (T := TX4) (N := 2) hx hb hts (fun _ h => List.mem_cons_of_mem _ (List.mem_append_right _ h)) tyX4 tyX4_ok nmX4 hown hC.2.1 hP hD hS 0 rfl rfl 0 (by decide) (hts (.fieldLink RX4 9 "SeedBattle$Orders" "directions" "[I") (List.mem_of_getElem? (i := 5) rfl)) (fun _ h9 => h9) rfl hin rfl (by decide +kernel) rfl rfl (Nat.le_of_ble_eq_true rfl) dX4_init_10 (fun H locs hP hD hS => ?_)
  have hP : va_P D vwCl [(h0, .inr (6, [.ref q1, .null])), (q1, .inl (cs 0, 4800, .inl (fun _ => 0)))] H := hP
  have hD : va_D F [(h0, .inr (6, [.ref q1, .null])), (q1, .inl (cs 0, 4800, .inl (fun _ => 0)))] := hD
  refine lv_aload_n hx hb dX4_init_13 rfl (lv_at hl 0 rfl) ?_
  refine lv_bipush (v := 24) hx hb dX4_init_14 (by decide) ?_
  refine N_newa hC hP hD hS (atype := .int) (hts (.arrayClass .int) (List.mem_of_getElem? (i := 4) rfl)) (ty := .int) rfl (t := 0) rfl (N' := 24) (a0 := (24, .inl (fun _ => 0))) (fun _ => rfl) (by decide) (by decide) (by decide) (Nat.le_of_ble_eq_true rfl) (Nat.le_of_ble_eq_true rfl) dX4_init_16 (fun q2 H hP hD hS => ?_)
  refine W.widen (k := 2) (n := 4824) (Nat.le_of_ble_eq_true rfl) (Nat.le_of_ble_eq_true rfl) ?_
  have hP : va_P D vwCl [(h0, .inr (6, [.ref q1, .null])), (q1, .inl (cs 0, 4800, .inl (fun _ => 0))), (q2, .inl (cs 0, 24, .inl (fun _ => 0)))] H := hP
  have hD : va_D F [(h0, .inr (6, [.ref q1, .null])), (q1, .inl (cs 0, 4800, .inl (fun _ => 0))), (q2, .inl (cs 0, 24, .inl (fun _ => 0)))] := hD
  refine va_putF (D := D) (ci := 6) (v := .ref q2) (ty := (.array (.int))) (C := RX4) (T := TX4) (N := 2) hx hb hts (fun _ h => List.mem_cons_of_mem _ (List.mem_append_right _ h)) tyX4 tyX4_ok nmX4 hown hC.2.1 hP hD hS 0 rfl rfl 1 (by decide) (hts (.fieldLink RX4 15 "SeedBattle$Orders" "given" "[I") (List.mem_of_getElem? (i := 6) rfl)) (fun _ h9 => h9) rfl hin rfl (by decide +kernel) rfl rfl (Nat.le_of_ble_eq_true rfl) dX4_init_18 (fun H locs hP hD hS => ?_)
  have hP : va_P D vwCl [(h0, .inr (6, [.ref q1, .ref q2])), (q1, .inl (cs 0, 4800, .inl (fun _ => 0))), (q2, .inl (cs 0, 24, .inl (fun _ => 0)))] H := hP
  have hD : va_D F [(h0, .inr (6, [.ref q1, .ref q2])), (q1, .inl (cs 0, 4800, .inl (fun _ => 0))), (q2, .inl (cs 0, 24, .inl (fun _ => 0)))] := hD
  refine lv_aload_n hx hb dX4_init_21 rfl (lv_at hl 0 rfl) ?_
  refine va_get (D := D) (ci := 6) (v := .ref q1) (C := RX4) (T := TX4) (N := 2) hx hb hts (fun _ h => List.mem_cons_of_mem _ (List.mem_append_right _ h)) hown hC.2.1 hP 0 rfl rfl 0 (by decide) (hts (.fieldLink RX4 9 "SeedBattle$Orders" "directions" "[I") (List.mem_of_getElem? (i := 5) rfl)) (fun _ h9 => h9) rfl dX4_init_22 ?_
  refine lv_iconst (v := (-1)) hx hb dX4_init_25 (by decide) ?_
  refine N_fill hC hP hD hS (wr := [(h0, .inr (6, [.ref q1, .ref q2])), (q2, .inl (cs 0, 24, .inl (fun _ => 0)))]) [1] [0, 2] (q := q1) (N := 4800) (f := fun _ => 0) (f2 := (fun j => if j < 4800 then (-1) else 0)) rfl rfl rfl rfl (by decide) (c_J7_fill_53178 l D cs az (fun _ => q1) (k := 0) (N := 4800) ⟨by decide, rfl⟩ (-1) _ _ (fill_0 (-1) (by decide))) (va_cwS 2 hts gX4_init_J7_fill_53178 rfl rfl rfl (by decide +kernel) ⟨(Nat.le_of_ble_eq_true rfl), (Nat.le_of_ble_eq_true rfl)⟩) rfl hl rfl (Nat.le_of_ble_eq_true rfl) dX4_init_26 (Nat.le_of_ble_eq_true rfl) (Nat.le_of_ble_eq_true rfl) (fun H locs hP hD hS => ?_)
  have hP : va_P D vwCl [(h0, .inr (6, [.ref q1, .ref q2])), (q2, .inl (cs 0, 24, .inl (fun _ => 0))), (q1, .inl (cs 0, 4800, .inl (fun j => if j < 4800 then (-1) else 0)))] H := hP
  have hD : va_D F [(h0, .inr (6, [.ref q1, .ref q2])), (q2, .inl (cs 0, 24, .inl (fun _ => 0))), (q1, .inl (cs 0, 4800, .inl (fun j => if j < 4800 then (-1) else 0)))] := hD
  have hP9 := hP.sub (ws' := [(h0, .inr (6, [.ref q1, .ref q2])), (q1, .inl (cs 0, 4800, .inl (fun j => if j < 4800 then (-1) else 0))), (q2, .inl (cs 0, 24, .inl (fun _ => 0)))]) [0, 2, 1] rfl
  have hD9 := hD.sub (ws' := [(h0, .inr (6, [.ref q1, .ref q2])), (q1, .inl (cs 0, 4800, .inl (fun j => if j < 4800 then (-1) else 0))), (q2, .inl (cs 0, 24, .inl (fun _ => 0)))]) [0, 2, 1] (by decide) rfl
  exact W.vret hx hb hr (fun t ht hW => ⟨⟨(fun k => ([q1, q2] : List Nat).getD k 0), rfl, trivial, by rw [ht]; exact hP9, hD9⟩, hS.F ht⟩) hS.2.2 dX4_init_29 hk
abbrev rm_X2_init : Room := { frames := 1, cells := 1, slots := 61, locals := 28 }
set_option maxHeartbeats 4000000 in
set_option maxRecDepth 100000 in
theorem c_X2_init (l : Launch) (D : va_G) (cs az : Nat → Nat) (h0 : Nat) : uN l yX2_init wsX2_init rm_X2_init D cs az [(h0, .inr (4, [.null, .int 0]))] [.ref h0] 1 61 (fun _ : Nat → Nat => True) (fun u => [(h0, .inr (4, [.ref (u 0), .int 0])), ((u 0), .inl (cs 0, 61, .inl (fun _ => 0)))]) := by
  refine u_ofN (cc := cX2_init) (maxL := 1) rfl (by decide) rfl (Nat.le_of_ble_eq_true rfl) ?_
  intro p e s m args below meth c F ls hC hin hr hk hl hP hD hS
  have hx := hC.1.1; have hb := hC.1.2.1; have hml := hC.1.2.2.1; have hts := hC.1.2.2.2.2
  have hown : s.vm.findClass RX2 = some m.cls := hC.1.2.2.2.1
  have hl : lv_has ls 1 [(0, .ref h0)] := hl
  refine lv_aload_n hx hb dX2_init_0 rfl (lv_at hl 0 rfl) ?_
  refine W.objInit hx hb hown (hts (.methodLink RX2 3 objectInit) (List.mem_of_getElem? (i := 1) rfl)) (hts (.instanceMethod objectInit) (List.mem_of_getElem? (i := 2) rfl)) (hts (.code objectInit ⟨#[0xb1]⟩ 1 none) (List.mem_of_getElem? (i := 3) rfl)) rfl (hl.1.trans hml.symm) rfl dX2_init_1 (Nat.le_of_ble_eq_true rfl) (Nat.le_of_ble_eq_true rfl) ?_
  refine W.eq (g2 := F0 m 4 ls []) rfl ?_
  refine lv_aload_n hx hb dX2_init_4 rfl (lv_at hl 0 rfl) ?_
  refine lv_bipush (v := 61) hx hb dX2_init_5 (by decide) ?_
  refine N_newa hC hP hD hS (atype := .int) (hts (.arrayClass .int) (List.mem_of_getElem? (i := 4) rfl)) (ty := .int) rfl (t := 0) rfl (N' := 61) (a0 := (61, .inl (fun _ => 0))) (fun _ => rfl) (by decide) (by decide) (by decide) (Nat.le_of_ble_eq_true rfl) (Nat.le_of_ble_eq_true rfl) dX2_init_7 (fun q1 H hP hD hS => ?_)
  refine W.widen (k := 1) (n := 61) (Nat.le_of_ble_eq_true rfl) (Nat.le_of_ble_eq_true rfl) ?_
  have hP : va_P D vwCl [(h0, .inr (4, [.null, .int 0])), (q1, .inl (cs 0, 61, .inl (fun _ => 0)))] H := hP
  have hD : va_D F [(h0, .inr (4, [.null, .int 0])), (q1, .inl (cs 0, 61, .inl (fun _ => 0)))] := hD
  refine va_putF (D := D) (ci := 4) (v := .ref q1) (ty := (.array (.int))) (C := RX2) (T := TX2) (N := 2) hx hb hts (fun _ h => List.mem_cons_of_mem _ (List.mem_append_right _ h)) tyX2 tyX2_ok nmX2 hown hC.2.1 hP hD hS 0 rfl rfl 0 (by decide) (hts (.fieldLink RX2 9 "SeedBattle$Index" "numbers" "[I") (List.mem_of_getElem? (i := 5) rfl)) (fun _ h9 => h9) rfl hin rfl (by decide +kernel) rfl rfl (Nat.le_of_ble_eq_true rfl) dX2_init_9 (fun H locs hP hD hS => ?_)
  have hP : va_P D vwCl [(h0, .inr (4, [.ref q1, .int 0])), (q1, .inl (cs 0, 61, .inl (fun _ => 0)))] H := hP
  have hD : va_D F [(h0, .inr (4, [.ref q1, .int 0])), (q1, .inl (cs 0, 61, .inl (fun _ => 0)))] := hD
  have hP9 := hP.sub (ws' := [(h0, .inr (4, [.ref q1, .int 0])), (q1, .inl (cs 0, 61, .inl (fun _ => 0)))]) [0, 1] rfl
  have hD9 := hD.sub (ws' := [(h0, .inr (4, [.ref q1, .int 0])), (q1, .inl (cs 0, 61, .inl (fun _ => 0)))]) [0, 1] (by decide) rfl
  exact W.vret hx hb hr (fun t ht hW => ⟨⟨(fun k => ([q1] : List Nat).getD k 0), rfl, trivial, by rw [ht]; exact hP9, hD9⟩, hS.F ht⟩) hS.2.2 dX2_init_12 hk
abbrev rm_X0_init : Room := { frames := 1, cells := 3, slots := 180, locals := 28 }
set_option maxHeartbeats 4000000 in
set_option maxRecDepth 100000 in
theorem c_X0_init (l : Launch) (D : va_G) (cs az : Nat → Nat) (h0 : Nat) : uN l yX0_init wsX0_init rm_X0_init D cs az [(h0, .inr (2, [.null, .null, .null, .int 0, .int 0, .int 0, .int 0]))] [.ref h0] 3 180 (fun _ : Nat → Nat => True) (fun u => [(h0, .inr (2, [.ref (u 0), .ref (u 1), .ref (u 2), .int 0, .int 0, .int 0, .int 0])), ((u 0), .inl (cs 0, 60, .inl (fun _ => 0))), ((u 1), .inl (cs 0, 60, .inl (fun _ => 0))), ((u 2), .inl (cs 0, 60, .inl (fun _ => 0)))]) := by
  refine u_ofN (cc := cX0_init) (maxL := 1) rfl (by decide) rfl (Nat.le_of_ble_eq_true rfl) ?_
  intro p e s m args below meth c F ls hC hin hr hk hl hP hD hS
  have hx := hC.1.1; have hb := hC.1.2.1; have hml := hC.1.2.2.1; have hts := hC.1.2.2.2.2
  have hown : s.vm.findClass RX0 = some m.cls := hC.1.2.2.2.1
  have hl : lv_has ls 1 [(0, .ref h0)] := hl
  refine lv_aload_n hx hb dX0_init_0 rfl (lv_at hl 0 rfl) ?_
  refine W.objInit hx hb hown (hts (.methodLink RX0 3 objectInit) (List.mem_of_getElem? (i := 1) rfl)) (hts (.instanceMethod objectInit) (List.mem_of_getElem? (i := 2) rfl)) (hts (.code objectInit ⟨#[0xb1]⟩ 1 none) (List.mem_of_getElem? (i := 3) rfl)) rfl (hl.1.trans hml.symm) rfl dX0_init_1 (Nat.le_of_ble_eq_true rfl) (Nat.le_of_ble_eq_true rfl) ?_
  refine W.eq (g2 := F0 m 4 ls []) rfl ?_
  refine lv_aload_n hx hb dX0_init_4 rfl (lv_at hl 0 rfl) ?_
  refine lv_bipush (v := 60) hx hb dX0_init_5 (by decide) ?_
  refine N_newa hC hP hD hS (atype := .int) (hts (.arrayClass .int) (List.mem_of_getElem? (i := 4) rfl)) (ty := .int) rfl (t := 0) rfl (N' := 60) (a0 := (60, .inl (fun _ => 0))) (fun _ => rfl) (by decide) (by decide) (by decide) (Nat.le_of_ble_eq_true rfl) (Nat.le_of_ble_eq_true rfl) dX0_init_7 (fun q1 H hP hD hS => ?_)
  refine W.widen (k := 1) (n := 60) (Nat.le_of_ble_eq_true rfl) (Nat.le_of_ble_eq_true rfl) ?_
  have hP : va_P D vwCl [(h0, .inr (2, [.null, .null, .null, .int 0, .int 0, .int 0, .int 0])), (q1, .inl (cs 0, 60, .inl (fun _ => 0)))] H := hP
  have hD : va_D F [(h0, .inr (2, [.null, .null, .null, .int 0, .int 0, .int 0, .int 0])), (q1, .inl (cs 0, 60, .inl (fun _ => 0)))] := hD
  refine va_putF (D := D) (ci := 2) (v := .ref q1) (ty := (.array (.int))) (C := RX0) (T := TX0) (N := 7) hx hb hts (fun _ h => List.mem_cons_of_mem _ (List.mem_append_right _ h)) tyX0 tyX0_ok nmX0 hown hC.2.1 hP hD hS 0 rfl rfl 0 (by decide) (hts (.fieldLink RX0 9 "SeedBattle$Copy" "numbers" "[I") (List.mem_of_getElem? (i := 5) rfl)) (fun _ h9 => h9) rfl hin rfl (by decide +kernel) rfl rfl (Nat.le_of_ble_eq_true rfl) dX0_init_9 (fun H locs hP hD hS => ?_)
  have hP : va_P D vwCl [(h0, .inr (2, [.ref q1, .null, .null, .int 0, .int 0, .int 0, .int 0])), (q1, .inl (cs 0, 60, .inl (fun _ => 0)))] H := hP
  have hD : va_D F [(h0, .inr (2, [.ref q1, .null, .null, .int 0, .int 0, .int 0, .int 0])), (q1, .inl (cs 0, 60, .inl (fun _ => 0)))] := hD
  refine lv_aload_n hx hb dX0_init_12 rfl (lv_at hl 0 rfl) ?_
  refine lv_bipush (v := 60) hx hb dX0_init_13 (by decide) ?_
  refine N_newa hC hP hD hS (atype := .int) (hts (.arrayClass .int) (List.mem_of_getElem? (i := 4) rfl)) (ty := .int) rfl (t := 0) rfl (N' := 60) (a0 := (60, .inl (fun _ => 0))) (fun _ => rfl) (by decide) (by decide) (by decide) (Nat.le_of_ble_eq_true rfl) (Nat.le_of_ble_eq_true rfl) dX0_init_15 (fun q2 H hP hD hS => ?_)
  refine W.widen (k := 2) (n := 120) (Nat.le_of_ble_eq_true rfl) (Nat.le_of_ble_eq_true rfl) ?_
  have hP : va_P D vwCl [(h0, .inr (2, [.ref q1, .null, .null, .int 0, .int 0, .int 0, .int 0])), (q1, .inl (cs 0, 60, .inl (fun _ => 0))), (q2, .inl (cs 0, 60, .inl (fun _ => 0)))] H := hP
  have hD : va_D F [(h0, .inr (2, [.ref q1, .null, .null, .int 0, .int 0, .int 0, .int 0])), (q1, .inl (cs 0, 60, .inl (fun _ => 0))), (q2, .inl (cs 0, 60, .inl (fun _ => 0)))] := hD
  refine va_putF (D := D) (ci := 2) (v := .ref q2) (ty := (.array (.int))) (C := RX0) (T := TX0) (N := 7) hx hb hts (fun _ h => List.mem_cons_of_mem _ (List.mem_append_right _ h)) tyX0 tyX0_ok nmX0 hown hC.2.1 hP hD hS 0 rfl rfl 1 (by decide) (hts (.fieldLink RX0 15 "SeedBattle$Copy" "parity" "[I") (List.mem_of_getElem? (i := 6) rfl)) (fun _ h9 => h9) rfl hin rfl (by decide +kernel) rfl rfl (Nat.le_of_ble_eq_true rfl) dX0_init_17 (fun H locs hP hD hS => ?_)
  have hP : va_P D vwCl [(h0, .inr (2, [.ref q1, .ref q2, .null, .int 0, .int 0, .int 0, .int 0])), (q1, .inl (cs 0, 60, .inl (fun _ => 0))), (q2, .inl (cs 0, 60, .inl (fun _ => 0)))] H := hP
  have hD : va_D F [(h0, .inr (2, [.ref q1, .ref q2, .null, .int 0, .int 0, .int 0, .int 0])), (q1, .inl (cs 0, 60, .inl (fun _ => 0))), (q2, .inl (cs 0, 60, .inl (fun _ => 0)))] := hD
  refine lv_aload_n hx hb dX0_init_20 rfl (lv_at hl 0 rfl) ?_
  refine lv_bipush (v := 60) hx hb dX0_init_21 (by decide) ?_
  refine N_newa hC hP hD hS (atype := .int) (hts (.arrayClass .int) (List.mem_of_getElem? (i := 4) rfl)) (ty := .int) rfl (t := 0) rfl (N' := 60) (a0 := (60, .inl (fun _ => 0))) (fun _ => rfl) (by decide) (by decide) (by decide) (Nat.le_of_ble_eq_true rfl) (Nat.le_of_ble_eq_true rfl) dX0_init_23 (fun q3 H hP hD hS => ?_)
  refine W.widen (k := 3) (n := 180) (Nat.le_of_ble_eq_true rfl) (Nat.le_of_ble_eq_true rfl) ?_
  have hP : va_P D vwCl [(h0, .inr (2, [.ref q1, .ref q2, .null, .int 0, .int 0, .int 0, .int 0])), (q1, .inl (cs 0, 60, .inl (fun _ => 0))), (q2, .inl (cs 0, 60, .inl (fun _ => 0))), (q3, .inl (cs 0, 60, .inl (fun _ => 0)))] H := hP
  have hD : va_D F [(h0, .inr (2, [.ref q1, .ref q2, .null, .int 0, .int 0, .int 0, .int 0])), (q1, .inl (cs 0, 60, .inl (fun _ => 0))), (q2, .inl (cs 0, 60, .inl (fun _ => 0))), (q3, .inl (cs 0, 60, .inl (fun _ => 0)))] := hD
  refine va_putF (D := D) (ci := 2) (v := .ref q3) (ty := (.array (.int))) (C := RX0) (T := TX0) (N := 7) hx hb hts (fun _ h => List.mem_cons_of_mem _ (List.mem_append_right _ h)) tyX0 tyX0_ok nmX0 hown hC.2.1 hP hD hS 0 rfl rfl 2 (by decide) (hts (.fieldLink RX0 18 "SeedBattle$Copy" "original" "[I") (List.mem_of_getElem? (i := 7) rfl)) (fun _ h9 => h9) rfl hin rfl (by decide +kernel) rfl rfl (Nat.le_of_ble_eq_true rfl) dX0_init_25 (fun H locs hP hD hS => ?_)
  have hP : va_P D vwCl [(h0, .inr (2, [.ref q1, .ref q2, .ref q3, .int 0, .int 0, .int 0, .int 0])), (q1, .inl (cs 0, 60, .inl (fun _ => 0))), (q2, .inl (cs 0, 60, .inl (fun _ => 0))), (q3, .inl (cs 0, 60, .inl (fun _ => 0)))] H := hP
  have hD : va_D F [(h0, .inr (2, [.ref q1, .ref q2, .ref q3, .int 0, .int 0, .int 0, .int 0])), (q1, .inl (cs 0, 60, .inl (fun _ => 0))), (q2, .inl (cs 0, 60, .inl (fun _ => 0))), (q3, .inl (cs 0, 60, .inl (fun _ => 0)))] := hD
  have hP9 := hP.sub (ws' := [(h0, .inr (2, [.ref q1, .ref q2, .ref q3, .int 0, .int 0, .int 0, .int 0])), (q1, .inl (cs 0, 60, .inl (fun _ => 0))), (q2, .inl (cs 0, 60, .inl (fun _ => 0))), (q3, .inl (cs 0, 60, .inl (fun _ => 0)))]) [0, 1, 2, 3] rfl
  have hD9 := hD.sub (ws' := [(h0, .inr (2, [.ref q1, .ref q2, .ref q3, .int 0, .int 0, .int 0, .int 0])), (q1, .inl (cs 0, 60, .inl (fun _ => 0))), (q2, .inl (cs 0, 60, .inl (fun _ => 0))), (q3, .inl (cs 0, 60, .inl (fun _ => 0)))]) [0, 1, 2, 3] (by decide) rfl
  exact W.vret hx hb hr (fun t ht hW => ⟨⟨(fun k => ([q1, q2, q3] : List Nat).getD k 0), rfl, trivial, by rw [ht]; exact hP9, hD9⟩, hS.F ht⟩) hS.2.2 dX0_init_28 hk
