/-! PART 48: the law's loop and its start -/
def V_cs (j : Nat) (x1 x2 x3 : Int32) (g : St) (f : Nat → Int64) (fd : Nat → UInt64) (mu : St) (K : St → (Nat → Int64) → (Nat → UInt64) → St → Prop) : Prop := match j with
  | 0 => V_case0 x1 x2 x3 g f fd mu K
  | 1 => V_case1 x1 x2 x3 g f fd mu K
  | 2 => V_case2 x1 x2 x3 g f fd mu K
  | 3 => V_case3 x1 x2 x3 g f fd mu K
  | 4 => V_case4 x1 x2 x3 g f fd mu K
  | 5 => V_case5 x1 x2 x3 g f fd mu K
  | 6 => V_case6 x1 x2 x3 g f fd mu K
  | 7 => V_case7 x1 x2 x3 g f fd mu K
  | 8 => V_case8 x1 x2 x3 g f fd mu K
  | 9 => V_case9 x1 x2 x3 g f fd mu K
  | 10 => V_case10 x1 x2 x3 g f fd mu K
  | 11 => V_case11 x1 x2 x3 g f fd mu K
  | 12 => V_case12 x1 x2 x3 g f fd mu K
  | 13 => V_case13 x1 x2 x3 g f fd mu K
  | 14 => V_case14 x1 x2 x3 g f fd mu K
  | 15 => V_case15 x1 x2 x3 g f fd mu K
  | 16 => V_case16 x1 x2 x3 g f fd mu K
  | 17 => V_case17 x1 x2 x3 g f fd mu K
  | 18 => V_case18 x1 x2 x3 g f fd mu K
  | 19 => V_case19 x1 x2 x3 g f fd mu K
  | 20 => V_case20 x1 x2 x3 g f fd mu K
  | 21 => V_case21 x1 x2 x3 g f fd mu K
  | 22 => V_case22 x1 x2 x3 g f fd mu K
  | 23 => V_case23 x1 x2 x3 g f fd mu K
  | 24 => V_case24 x1 x2 x3 g f fd mu K
  | 25 => V_case25 x1 x2 x3 g f fd mu K
  | _ => K g f fd mu
def V_step (x0 : Int32) (x1 x2 x3 : Int32) (g : St) (f : Nat → Int64) (fd : Nat → UInt64) (mu : St) (K : St → (Nat → Int64) → (Nat → UInt64) → St → Prop) : Prop := ∀ j : Nat, j < 32 → x0 &&& 31 = nI j → V_cs j x1 x2 x3 g f fd mu K
def LawOK (xs : Nat → Int32) : Nat → Nat → St → (Nat → Int64) → (Nat → UInt64) → St → Prop
  | 0, _, _, _, _, _ => True
  | k + 1, n, g, f, fd, mu => V_step (xs (4 * n)) (xs (4 * n + 1)) (xs (4 * n + 2)) (xs (4 * n + 3)) g f fd mu (fun g' f' fd' mu' => LawOK xs k (n + 1) g' f' fd' mu')
set_option maxHeartbeats 4000000 in
set_option maxRecDepth 100000 in
theorem law_step {p : Program} {l : Launch} {e : Env} {s : State} {m : MethodId} {args : Array Value} {below : List Frame} {meth : Method} {c : Code} {H : Heap} {locs : List Loc} {Q : State → Prop} {ls : Array Slot} {D : va_G} {cs az a bm : Nat → Nat} {ao ad : Nat} {F : Nat → Prop} {g mu : St} {f : Nat → Int64} {fd : Nat → UInt64} {b L n cc9 ss9 : Nat} {xs : Nat → Int32} {x0 x1 x2 x3 : Int32} (hfl : l.flags = flags0) {K : St → (Nat → Int64) → (Nat → UInt64) → St → Prop} (hv : V_step x0 x1 x2 x3 g f fd mu K)
    (hC : uC p m c cL_law 9 s args wsL_law RL D cs az F) (hX : va_X b L xs s s.heap) (hbl : b < s.heap.size) (hbF : ¬ F b) (hin0 : vp_in (nI (4 * n)) L) (hin1 : vp_in (nI (4 * n) + 1) L) (hin2 : vp_in (nI (4 * n) + 2) L) (hin3 : vp_in (nI (4 * n) + 3) L) (hx0 : xs (nI (4 * n)).toNatClampNeg = x0) (hx1 : xs (nI (4 * n) + 1).toNatClampNeg = x1) (hx2 : xs (nI (4 * n) + 2).toNatClampNeg = x2) (hx3 : xs (nI (4 * n) + 3).toNatClampNeg = x3)
    (hcR : cc9 + 4 ≤ room_1.cells) (hsR : ss9 + 24 ≤ room_1.slots)
    (hK : ∀ g' f' fd' mu', K g' f' fd' mu' → ∀ (H : Heap) (locs : List Loc) (ls : Array Slot), uZ D cs a bm ao ad F s g' f' fd' mu' H locs → lv_has ls 9 [(0, .ref b), (1, .ref (a 0)), (2, .ref (bm 0)), (3, .ref ao), (4, .ref ad), (5, .int (nI (4 * n)))] → W p l e room_1 s m args below meth c H locs (cc9 + 4) (ss9 + 24) Q (F0 m 1641 ls []))
    (hZ : uZ D cs a bm ao ad F s g f fd mu H locs) (hl : lv_has ls 9 [(0, .ref b), (1, .ref (a 0)), (2, .ref (bm 0)), (3, .ref ao), (4, .ref ad), (5, .int (nI (4 * n)))]) : W p l e room_1 s m args below meth c H locs cc9 ss9 Q (F0 m 37 ls []) := by
  have hx := hC.1.1; have hb := hC.1.2.1
  refine lv_aload_n hx hb dL_law_37 rfl (lv_at hl 0 rfl) ?_
  refine lv_iload hx hb dL_law_38 (lv_at hl 5 rfl) ?_
  refine Z_sld hC hZ hX hbl hbF hin0 hx0 dL_law_40 ?_
  refine lv_bipush (v := 31) hx hb dL_law_41 (by decide) ?_
  refine lv_iand hx hb dL_law_43 ?_
  obtain ⟨j, hj, ej⟩ := pk_andE x0 (m := 31) 5 (by decide)
  have hv := hv j hj ej
  rw [ej]
  match j, hj, hv with
  | 0, _, hv => exact lv_tableIn (off := 120) (tgt := 164) hx hb dL_law_44 (by decide) (by decide) (by decide) (by decide) (law_case0 hfl hv hC hX hbl hbF hin1 hin2 hin3 hx1 hx2 hx3 hcR hsR hK hZ hl)
  | 1, _, hv => exact lv_tableIn (off := 176) (tgt := 220) hx hb dL_law_44 (by decide) (by decide) (by decide) (by decide) (law_case1 hfl hv hC hX hbl hbF hin1 hin2 hin3 hx1 hx2 hx3 hcR hsR hK hZ hl)
  | 2, _, hv => exact lv_tableIn (off := 232) (tgt := 276) hx hb dL_law_44 (by decide) (by decide) (by decide) (by decide) (law_case2 hfl hv hC hX hbl hbF hin1 hin2 hin3 hx1 hx2 hx3 hcR hsR hK hZ hl)
  | 3, _, hv => exact lv_tableIn (off := 314) (tgt := 358) hx hb dL_law_44 (by decide) (by decide) (by decide) (by decide) (law_case3 hfl hv hC hX hbl hbF hin1 hin2 hin3 hx1 hx2 hx3 hcR hsR hK hZ hl)
  | 4, _, hv => exact lv_tableIn (off := 382) (tgt := 426) hx hb dL_law_44 (by decide) (by decide) (by decide) (by decide) (law_case4 hfl hv hC hX hbl hbF hin1 hin2 hin3 hx1 hx2 hx3 hcR hsR hK hZ hl)
  | 5, _, hv => exact lv_tableIn (off := 426) (tgt := 470) hx hb dL_law_44 (by decide) (by decide) (by decide) (by decide) (law_case5 hfl hv hC hX hbl hbF hin1 hin2 hin3 hx1 hx2 hx3 hcR hsR hK hZ hl)
  | 6, _, hv => exact lv_tableIn (off := 439) (tgt := 483) hx hb dL_law_44 (by decide) (by decide) (by decide) (by decide) (law_case6 hfl hv hC hX hbl hbF hin1 hin2 hin3 hx1 hx2 hx3 hcR hsR hK hZ hl)
  | 7, _, hv => exact lv_tableIn (off := 495) (tgt := 539) hx hb dL_law_44 (by decide) (by decide) (by decide) (by decide) (law_case7 hfl hv hC hX hbl hbF hin1 hin2 hin3 hx1 hx2 hx3 hcR hsR hK hZ hl)
  | 8, _, hv => exact lv_tableIn (off := 551) (tgt := 595) hx hb dL_law_44 (by decide) (by decide) (by decide) (by decide) (law_case8 hfl hv hC hX hbl hbF hin1 hin2 hin3 hx1 hx2 hx3 hcR hsR hK hZ hl)
  | 9, _, hv => exact lv_tableIn (off := 626) (tgt := 670) hx hb dL_law_44 (by decide) (by decide) (by decide) (by decide) (law_case9 hfl hv hC hX hbl hbF hin1 hin2 hin3 hx1 hx2 hx3 hcR hsR hK hZ hl)
  | 10, _, hv => exact lv_tableIn (off := 682) (tgt := 726) hx hb dL_law_44 (by decide) (by decide) (by decide) (by decide) (law_case10 hfl hv hC hX hbl hbF hin1 hin2 hin3 hx1 hx2 hx3 hcR hsR hK hZ hl)
  | 11, _, hv => exact lv_tableIn (off := 785) (tgt := 829) hx hb dL_law_44 (by decide) (by decide) (by decide) (by decide) (law_case11 hfl hv hC hX hbl hbF hin1 hin2 hin3 hx1 hx2 hx3 hcR hsR hK hZ hl)
  | 12, _, hv => exact lv_tableIn (off := 841) (tgt := 885) hx hb dL_law_44 (by decide) (by decide) (by decide) (by decide) (law_case12 hfl hv hC hX hbl hbF hin1 hin2 hin3 hx1 hx2 hx3 hcR hsR hK hZ hl)
  | 13, _, hv => exact lv_tableIn (off := 923) (tgt := 967) hx hb dL_law_44 (by decide) (by decide) (by decide) (by decide) (law_case13 hfl hv hC hX hbl hbF hin1 hin2 hin3 hx1 hx2 hx3 hcR hsR hK hZ hl)
  | 14, _, hv => exact lv_tableIn (off := 991) (tgt := 1035) hx hb dL_law_44 (by decide) (by decide) (by decide) (by decide) (law_case14 hfl hv hC hX hbl hbF hin1 hin2 hin3 hx1 hx2 hx3 hcR hsR hK hZ hl)
  | 15, _, hv => exact lv_tableIn (off := 1059) (tgt := 1103) hx hb dL_law_44 (by decide) (by decide) (by decide) (by decide) (law_case15 hfl hv hC hX hbl hbF hin1 hin2 hin3 hx1 hx2 hx3 hcR hsR hK hZ hl)
  | 16, _, hv => exact lv_tableIn (off := 1072) (tgt := 1116) hx hb dL_law_44 (by decide) (by decide) (by decide) (by decide) (law_case16 hfl hv hC hX hbl hbF hin1 hin2 hin3 hx1 hx2 hx3 hcR hsR hK hZ hl)
  | 17, _, hv => exact lv_tableIn (off := 1128) (tgt := 1172) hx hb dL_law_44 (by decide) (by decide) (by decide) (by decide) (law_case17 hfl hv hC hX hbl hbF hin1 hin2 hin3 hx1 hx2 hx3 hcR hsR hK hZ hl)
  | 18, _, hv => exact lv_tableIn (off := 1203) (tgt := 1247) hx hb dL_law_44 (by decide) (by decide) (by decide) (by decide) (law_case18 hfl hv hC hX hbl hbF hin1 hin2 hin3 hx1 hx2 hx3 hcR hsR hK hZ hl)
  | 19, _, hv => exact lv_tableIn (off := 1271) (tgt := 1315) hx hb dL_law_44 (by decide) (by decide) (by decide) (by decide) (law_case19 hfl hv hC hX hbl hbF hin1 hin2 hin3 hx1 hx2 hx3 hcR hsR hK hZ hl)
  | 20, _, hv => exact lv_tableIn (off := 1327) (tgt := 1371) hx hb dL_law_44 (by decide) (by decide) (by decide) (by decide) (law_case20 hfl hv hC hX hbl hbF hin1 hin2 hin3 hx1 hx2 hx3 hcR hsR hK hZ hl)
  | 21, _, hv => exact lv_tableIn (off := 1383) (tgt := 1427) hx hb dL_law_44 (by decide) (by decide) (by decide) (by decide) (law_case21 hfl hv hC hX hbl hbF hin1 hin2 hin3 hx1 hx2 hx3 hcR hsR hK hZ hl)
  | 22, _, hv => exact lv_tableIn (off := 1439) (tgt := 1483) hx hb dL_law_44 (by decide) (by decide) (by decide) (by decide) (law_case22 hfl hv hC hX hbl hbF hin1 hin2 hin3 hx1 hx2 hx3 hcR hsR hK hZ hl)
  | 23, _, hv => exact lv_tableIn (off := 1453) (tgt := 1497) hx hb dL_law_44 (by decide) (by decide) (by decide) (by decide) (law_case23 hfl hv hC hX hbl hbF hin1 hin2 hin3 hx1 hx2 hx3 hcR hsR hK hZ hl)
  | 24, _, hv => exact lv_tableIn (off := 1519) (tgt := 1563) hx hb dL_law_44 (by decide) (by decide) (by decide) (by decide) (law_case24 hfl hv hC hX hbl hbF hin1 hin2 hin3 hx1 hx2 hx3 hcR hsR hK hZ hl)
  | 25, _, hv => exact lv_tableIn (off := 1584) (tgt := 1628) hx hb dL_law_44 (by decide) (by decide) (by decide) (by decide) (law_case25 hfl hv hC hX hbl hbF hin1 hin2 hin3 hx1 hx2 hx3 hcR hsR hK hZ hl)
  | j + 26, hj, hv =>
    refine lv_tableOut (tgt := 1641) hx hb dL_law_44 (Or.inr ?_) (by decide) ?_
    · rw [nI_toInt (by omega)]; omega
    · exact W.widen (Nat.le_add_right _ _) (Nat.le_add_right _ _) (hK _ _ _ _ hv _ _ _ hZ hl)
theorem law_vin {n k L : Nat} (hL : L ≤ 2048) (h : 4 * n + k < L) : vp_in (nI (4 * n) + nI k) L := by
  rw [nI_add]; exact vp_in_nI h (by omega)
set_option maxHeartbeats 4000000 in
set_option maxRecDepth 100000 in
theorem law_loop {p : Program} {l : Launch} {e : Env} {s : State} {m : MethodId} {args : Array Value} {below : List Frame} {meth : Method} {c : Code} {Q : State → Prop} {D : va_G} {cs az a bm : Nat → Nat} {ao ad : Nat} {F : Nat → Prop} {b L c0 s0 : Nat} {xs : Nat → Int32} (hfl : l.flags = flags0) (hL : L ≤ 2048)
    (hC : uC p m c cL_law 9 s args wsL_law RL D cs az F) (hX : va_X b L xs s s.heap) (hbl : b < s.heap.size) (hbF : ¬ F b)
    (hcR : c0 ≤ room_1.cells) (hsR : s0 ≤ room_1.slots)
    (hend : ∀ (H : Heap) (locs : List Loc) (ls : Array Slot), va_S F s.heap H locs → W p l e room_1 s m args below meth c H locs c0 s0 Q (F0 m 1647 ls [])) :
    ∀ (k n : Nat) (g : St) (f : Nat → Int64) (fd : Nat → UInt64) (mu : St) (H : Heap) (locs : List Loc) (ls : Array Slot) (cc9 ss9 : Nat), 4 * (n + k) ≤ L → L < 4 * (n + k) + 4 → cc9 + 4 * k ≤ c0 → ss9 + 24 * k ≤ s0 → LawOK xs k n g f fd mu → uZ D cs a bm ao ad F s g f fd mu H locs →
      lv_has ls 9 [(0, .ref b), (1, .ref (a 0)), (2, .ref (bm 0)), (3, .ref ao), (4, .ref ad), (5, .int (nI (4 * n)))] → W p l e room_1 s m args below meth c H locs cc9 ss9 Q (F0 m 28 ls []) := by
  have hx := hC.1.1; have hb := hC.1.2.1
  intro k
  induction k with
  | zero =>
    intro n g f fd mu H locs ls cc9 ss9 h1 h2 h3 h4 hv hZ hl
    refine lv_iload hx hb dL_law_28 (lv_at hl 5 rfl) ?_
    refine lv_aload_n hx hb dL_law_30 rfl (lv_at hl 0 rfl) ?_
    refine va_slen hx hb hX hbl hbF hZ.2.2 dL_law_31 ?_
    refine lv_iconst (v := 4) hx hb dL_law_32 (by decide) ?_
    refine lv_isub hx hb dL_law_33 ?_
    refine lv_icmp_gt (tgt := 1647) hx hb dL_law_34 (by decide) (fun c => ?_) (fun c => ?_)
    · exact W.widen h3 h4 (hend _ _ _ hZ.2.2)
    · exfalso; apply c; rw [Int32.lt_iff_toInt_lt]; show (nI L - nI 4).toInt < (nI (4 * n)).toInt; rw [pk_sub_toInt (by omega) (by omega), nI_toInt (by omega)]; omega
  | succ k ih =>
    intro n g f fd mu H locs ls cc9 ss9 h1 h2 h3 h4 hv hZ hl
    refine lv_iload hx hb dL_law_28 (lv_at hl 5 rfl) ?_
    refine lv_aload_n hx hb dL_law_30 rfl (lv_at hl 0 rfl) ?_
    refine va_slen hx hb hX hbl hbF hZ.2.2 dL_law_31 ?_
    refine lv_iconst (v := 4) hx hb dL_law_32 (by decide) ?_
    refine lv_isub hx hb dL_law_33 ?_
    refine lv_icmp_gt (tgt := 1647) hx hb dL_law_34 (by decide) (fun c => ?_) (fun c => ?_)
    · exfalso; rw [Int32.lt_iff_toInt_lt] at c; have c : (nI L - nI 4).toInt < (nI (4 * n)).toInt := c; rw [pk_sub_toInt (by omega) (by omega), nI_toInt (by omega)] at c; omega
    · have hv : V_step (xs (4 * n)) (xs (4 * n + 1)) (xs (4 * n + 2)) (xs (4 * n + 3)) g f fd mu (fun g' f' fd' mu' => LawOK xs k (n + 1) g' f' fd' mu') := hv
      have e0 : xs (nI (4 * n)).toNatClampNeg = xs (4 * n) := by rw [nI_clamp (by omega)]
      have e1 : xs (nI (4 * n) + 1).toNatClampNeg = xs (4 * n + 1) := by rw [show nI (4 * n) + 1 = nI (4 * n + 1) from nI_add _ 1, nI_clamp (by omega)]
      have e2 : xs (nI (4 * n) + 2).toNatClampNeg = xs (4 * n + 2) := by rw [show nI (4 * n) + 2 = nI (4 * n + 2) from nI_add _ 2, nI_clamp (by omega)]
      have e3 : xs (nI (4 * n) + 3).toNatClampNeg = xs (4 * n + 3) := by rw [show nI (4 * n) + 3 = nI (4 * n + 3) from nI_add _ 3, nI_clamp (by omega)]
      refine law_step (cc9 := cc9) (ss9 := ss9) hfl hv hC hX hbl hbF (vp_in_nI (by omega) (by omega)) (law_vin (k := 1) hL (by omega)) (law_vin (k := 2) hL (by omega)) (law_vin (k := 3) hL (by omega)) e0 e1 e2 e3 (by omega) (by omega) (fun g' f' fd' mu' hv' H locs ls hZ hl => ?_) hZ hl
      refine lv_iinc (v := nI (4 * (n + 1))) (lv' := [(5, .int (nI (4 * (n + 1)))), (0, .ref b), (1, .ref (a 0)), (2, .ref (bm 0)), (3, .ref ao), (4, .ref ad)]) hx hb dL_law_1641 hl (k := 5) rfl (by show nI (4 * n) + nI 4 = _; rw [nI_add]; rfl) (by decide) rfl (fun ls hl => ?_)
      refine lv_goto (tgt := 28) hx hb dL_law_1644 (by decide) ?_
      exact ih (n + 1) g' f' fd' mu' H locs ls (cc9 + 4) (ss9 + 24) (by omega) (by omega) (by omega) (by omega) hv' hZ (lv_sub hl [1, 2, 3, 4, 5, 0] rfl)
