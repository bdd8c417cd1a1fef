theorem rng_left (X Y : va_W) {n : Nat} (h : X.length = n) : (List.range n).map (fun i => (X ++ Y)[i]?) = X.map some := by
  subst h
  apply List.ext_getElem?
  intro i
  by_cases hi : i < X.length
  · rw [List.getElem?_map, List.getElem?_map, List.getElem?_range hi]
    simp [List.getElem?_append_left hi, List.getElem?_eq_getElem hi]
  · rw [List.getElem?_eq_none (by simpa using hi), List.getElem?_eq_none (by simpa using hi)]
theorem rng_right (X : va_W) (y : Nat × va_E) {n : Nat} (h : X.length = n) : [n].map (fun i => (X ++ [y])[i]?) = [y].map some := by
  subst h
  simp
set_option maxHeartbeats 8000000 in
set_option maxRecDepth 100000 in
theorem law_whole {p : Program} {e : Env} {s : State} {m : MethodId} {below : List Frame} {meth : Method} {c : Code} (l : Launch) (hflags : l.flags = flags0) {b L : Nat} {xs : Nat → Int32} (hL : L ≤ 2048) (C0 : lw_At p s m meth c b L xs) (hv : V_X3_grow 0 0 gI (fun g => LawOK xs (L / 4) 0 g (fun _ => 0) (fun _ => 0) g00)) : W p l e room_1 s m #[Value.ref b] below meth c s.heap [] 0 0 (lw_Z below #[Value.ref b] s) (entryFrame m ([Value.ref b] : List Value).toArray 9) := by
  obtain ⟨hx, hb, hr, hml, hown, hts, hX, hbl, hk, hgv⟩ := C0
  obtain ⟨D, cs, hK, ao3, ao4⟩ := start_K hts
  obtain ⟨az, hZ0⟩ := start_Z hts (flat_of_before _ hgv)
  rw [lg_entry_eq]
  have hl := lv_entry ([.ref b]) (n := 9) (Nat.le_of_ble_eq_true rfl)
  generalize (lg_sl ([.ref b]) ++ List.replicate (9 - (lg_sl ([.ref b])).length) Slot.unset).toArray = ls at hl ⊢
  have hl : lv_has ls 9 [(0, .ref b)] := hl
  obtain ⟨F, hF⟩ : ∃ F : Nat → Prop, F = fun q => s.heap.size ≤ q := ⟨_, rfl⟩
  have hZF : zF az F s s.heap := by rw [hF]; exact hZ0
  have hbF : ¬ F b := by rw [hF]; exact Nat.not_le.mpr hbl
  have hC : uC p m c cL_law 9 s #[Value.ref b] wsL_law RL D cs az F := ⟨⟨hx, hb, hml, hown, fun w h => hts w (wsL_law_in w h)⟩, hK, fun q h => by rw [hF]; exact h, hZF⟩
  have hP : va_P D vwCl ([] : va_W) s.heap := fun k q hq => by cases hq
  have hD : va_D F ([] : va_W) := ⟨fun i j p q hp => (by cases hp), fun k q hq => (by cases hq)⟩
  have hS : va_S F s.heap s.heap [] := va_S.rf
  refine va_new (ci := 8) (fs := [.null, .null, .null, .null, .null, .null, .null, .int 0, .int 0, .int 0]) (C := RX6) (T := TX6) (N := 10) hx hb hts inX6 tyX6 tyX6_ok hown (hts (.classLink RL 8 RX6) (List.mem_of_getElem? (i := 80) rfl)) (hts (.instantiable RX6 10) (List.mem_of_getElem? (i := 81) rfl)) (hts (.initialized RX6) (List.mem_of_getElem? (i := 54) rfl)) hC.2.1 hP hD hS hC.2.2.1 rfl (fun j hj => by rcases (show j = 0 ∨ j = 1 ∨ j = 2 ∨ j = 3 ∨ j = 4 ∨ j = 5 ∨ j = 6 ∨ j = 7 ∨ j = 8 ∨ j = 9 by omega) with rfl | rfl | rfl | rfl | rfl | rfl | rfl | rfl | rfl | rfl <;> rfl) (Nat.le_of_ble_eq_true rfl) (Nat.le_of_ble_eq_true rfl) dL_law_0 (fun q1 H hP hD hS => ?_)
  refine lv_dup hx hb dL_law_3 rfl ?_
  refine N_run (wc := [(q1, .inr (8, [.null, .null, .null, .null, .null, .null, .null, .int 0, .int 0, .int 0]))]) (wr := []) hC hP hD hS [0] [] rfl rfl rfl (by decide) (va_runI (As := []) (rest := [.ref q1]) hC.1 (c_X6_init l D cs az q1 _ hv H.size) (cwI 0 hC.1.2.2.2.2 gL_law_X6_init rfl rfl rfl (hts (.initialized RX6) (List.mem_of_getElem? (i := 54) rfl)) (hts (.methodLink RL 97 yX6_init) (List.mem_of_getElem? (i := 82) rfl)) (hts (.instanceMethod yX6_init) (List.mem_of_getElem? (i := 83) rfl)) rfl (by decide +kernel) ⟨Nat.le_of_ble_eq_true rfl, Nat.le_of_ble_eq_true rfl⟩) ⟨fun a U j mk h => ⟨uP_blind a U j mk h.1, va_AO.moved (State.WarmedH.refl U).alike h.2.1, va_AO.moved (State.WarmedH.refl U).alike h.2.2⟩, fun U hU hW => ⟨uP_atL [0] rfl rfl hC hP hD hS hU hW, va_AO.moved hW.alike ao3, va_AO.moved hW.alike ao4⟩⟩ rfl rfl hl.1 rfl (lv_room (Nat.le_of_ble_eq_true rfl)) dL_law_4 ⟨Nat.le_of_ble_eq_true rfl, Nat.le_of_ble_eq_true rfl⟩) (fun z H1 l1 hp hP1 hD1 hS1 => ?_)
  obtain ⟨a, g⟩ := z
  obtain ⟨ha0, hv⟩ := hp
  have ha0 : a 0 = q1 := ha0
  have hv : LawOK xs (L / 4) 0 g (fun _ => 0) (fun _ => 0) g00 := hv
  have hP2 : va_P D vwCl (gW cs a g) H1 := hP1
  have hD2 : va_D F (gW cs a g) := hD1
  have hlen : (gW cs a g).length = 52 := by simp [uW]
  subst ha0
  refine lv_astore_n (lv' := [(1, .ref (a 0)), (0, .ref b)]) hx hb dL_law_7 rfl hl (by decide) rfl (fun ls hl => ?_)
  refine va_new (ci := 9) (fs := [.null, .null, .null, .null, .null, .null, .null, .null, .null, .null, .null, .null, .null, .null, .null, .int 0, .int 0, .int 0, .int 0, .int 0]) (C := RX7) (T := TX7) (N := 20) hx hb hts inX7 tyX7 tyX7_ok hown (hts (.classLink RL 98 RX7) (List.mem_of_getElem? (i := 1063) rfl)) (hts (.instantiable RX7 20) (List.mem_of_getElem? (i := 1064) rfl)) (hts (.initialized RX7) (List.mem_of_getElem? (i := 66) rfl)) hC.2.1 hP2 hD2 hS1 hC.2.2.1 rfl (fun j hj => by rcases (show j = 0 ∨ j = 1 ∨ j = 2 ∨ j = 3 ∨ j = 4 ∨ j = 5 ∨ j = 6 ∨ j = 7 ∨ j = 8 ∨ j = 9 ∨ j = 10 ∨ j = 11 ∨ j = 12 ∨ j = 13 ∨ j = 14 ∨ j = 15 ∨ j = 16 ∨ j = 17 ∨ j = 18 ∨ j = 19 by omega) with rfl | rfl | rfl | rfl | rfl | rfl | rfl | rfl | rfl | rfl | rfl | rfl | rfl | rfl | rfl | rfl | rfl | rfl | rfl | rfl <;> rfl) (Nat.le_of_ble_eq_true rfl) (Nat.le_of_ble_eq_true rfl) dL_law_8 (fun q2 H3 hP3 hD3 hS3 => ?_)
  refine lv_dup hx hb dL_law_11 rfl ?_
  refine N_callI (As := []) (rest := [.ref q2]) hC hP3 hD3 hS3 [52] (List.range 52) (rng_right _ _ hlen) rfl (rng_left _ _ hlen) (by decide +kernel) (fun i hi h => by have := List.mem_range.mp hi; have := List.mem_singleton.mp h; omega) (c_X7_init l D cs az q2) (cwI 0 hC.1.2.2.2.2 gL_law_X7_init rfl rfl rfl (hts (.initialized RX7) (List.mem_of_getElem? (i := 66) rfl)) (hts (.methodLink RL 100 yX7_init) (List.mem_of_getElem? (i := 1065) rfl)) (hts (.instanceMethod yX7_init) (List.mem_of_getElem? (i := 1066) rfl)) rfl (by decide +kernel) ⟨Nat.le_of_ble_eq_true rfl, Nat.le_of_ble_eq_true rfl⟩) rfl hl rfl (Nat.le_of_ble_eq_true rfl) dL_law_12 (Nat.le_of_ble_eq_true rfl) (Nat.le_of_ble_eq_true rfl) (fun u H4 l2 _ hP4 hD4 hS4 => ?_)
  obtain ⟨bm, hbm⟩ : ∃ bm : Nat → Nat, bm = fun k => match k with | 0 => q2 | k + 1 => u k := ⟨_, rfl⟩
  have hb0 : bm 0 = q2 := by rw [hbm]
  have hP5 : va_P D vwCl (gW cs a g ++ mW cs bm g00) H4 := by rw [hbm]; exact hP4
  have hD5 : va_D F (gW cs a g ++ mW cs bm g00) := by rw [hbm]; exact hD4
  subst hb0
  refine lv_astore_n (lv' := [(2, .ref (bm 0)), (1, .ref (a 0)), (0, .ref b)]) hx hb dL_law_15 rfl hl (by decide) rfl (fun ls hl => ?_)
  refine lv_iconst (v := 1) hx hb dL_law_16 (by decide) ?_
  refine N_newa hC hP5 hD5 hS4 (atype := .long) (hts (.arrayClass .long) (List.mem_of_getElem? (i := 1361) rfl)) (ty := .long) rfl (t := 5) rfl (N' := 1) (a0 := (1, .inr (.inl (fun _ => 0)))) (fun _ => rfl) (by decide) (by decide) (by decide) (Nat.le_of_ble_eq_true rfl) (Nat.le_of_ble_eq_true rfl) dL_law_17 (fun ao H6 hP6 hD6 hS6 => ?_)
  refine lv_astore_n (lv' := [(3, .ref ao), (2, .ref (bm 0)), (1, .ref (a 0)), (0, .ref b)]) hx hb dL_law_19 rfl hl (by decide) rfl (fun ls hl => ?_)
  refine lv_iconst (v := 1) hx hb dL_law_20 (by decide) ?_
  refine N_newa hC hP6 hD6 hS6 (atype := .double) (hts (.arrayClass .double) (List.mem_of_getElem? (i := 1362) rfl)) (ty := .double) rfl (t := 6) rfl (N' := 1) (a0 := (1, .inr (.inr (.inr (.inl (fun _ => 0)))))) (fun _ => rfl) (by decide) (by decide) (by decide) (Nat.le_of_ble_eq_true rfl) (Nat.le_of_ble_eq_true rfl) dL_law_21 (fun ad H7 hP7 hD7 hS7 => ?_)
  refine lv_astore (lv' := [(4, .ref ad), (3, .ref ao), (2, .ref (bm 0)), (1, .ref (a 0)), (0, .ref b)]) hx hb dL_law_23 hl (by decide) rfl (fun ls hl => ?_)
  refine lv_iconst (v := nI (4 * 0)) hx hb dL_law_25 (by decide) ?_
  refine lv_istore (lv' := [(5, .int (nI (4 * 0))), (4, .ref ad), (3, .ref ao), (2, .ref (bm 0)), (1, .ref (a 0)), (0, .ref b)]) hx hb dL_law_26 hl (by decide) rfl (fun ls hl => ?_)
  have hZ : uZ D cs a bm ao ad F s g (fun _ => 0) (fun _ => 0) g00 H7 l2 := by
    refine uZ_mk (va_D_perm hD7 ?_) hS7 (va_P_l (va_P_l (va_P_l hP7))) (va_P_r (va_P_l hP7)) (va_P_r hP7) (va_P_r (va_P_l (va_P_l hP7)))
    unfold wZ
    rw [List.append_assoc, List.append_assoc]
    refine List.Perm.append_left _ (List.perm_append_comm.trans ?_)
    rw [List.append_assoc]
    exact List.Perm.refl _
  refine law_loop (c0 := 70 + 4 * (L / 4)) (s0 := 7046 + 24 * (L / 4)) hflags hL hC hX hbl hbF (by show 70 + 4 * (L / 4) ≤ 603072; omega) (by show 7046 + 24 * (L / 4) ≤ 7219306; omega) ?_ (L / 4) 0 g _ _ g00 H7 l2 ls _ _ (by omega) (by omega) (by omega) (by omega) hv hZ (lv_sub hl [5, 4, 3, 2, 1, 0] rfl)
  intro H locs ls hS
  refine lv_iconst (v := 1) hx hb dL_law_1647 (by decide) ?_
  refine va_forget (fun q hq => by have h9 := hS.2.2 q hq; rw [hF] at h9; exact h9) ?_
  refine W.widen (k := 603072) (n := 7219306) (by omega) (by omega) ?_
  exact lw_ret (Drawn.sameBut.refl s.drawn lw_cs) hx hb hr hk dL_law_1648
