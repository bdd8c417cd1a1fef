def V_case0 (x1 x2 x3 : Int32) (g : St) (f : Nat → Int64) (fd : Nat → UInt64) (mu : St) (K : St → (Nat → Int64) → (Nat → UInt64) → St → Prop) : Prop := V_L_setSeed x1 g f (fun k1 z => V_X7_setSeed x1 mu (fun r4 mu5 => V_X7_thrown  mu5 (fun r6 mu7 => ((r6 = k1 → ((¬ k1 = 0 → K z.1 z.2 fd mu7) ∧ (k1 = 0 → (((lg_cmp (z.2 0) (Int32.toInt64 r4)) = 0 → K z.1 z.2 fd mu7) ∧ (¬ (lg_cmp (z.2 0) (Int32.toInt64 r4)) = 0 → False))))) ∧ (¬ r6 = k1 → False)))))
set_option maxHeartbeats 4000000 in
set_option maxRecDepth 100000 in
theorem law_case0 {p : Program} {l : Launch} {e : Env} {s : State} {m : MethodId} {args : Array Value} {below : List Frame} {meth : Method} {c : Code} {H : Heap} {locs : List Loc} {Q : State → Prop} {ls : Array Slot} {D : va_G} {cs az a bm : Nat → Nat} {ao ad : Nat} {F : Nat → Prop} {g mu : St} {f : Nat → Int64} {fd : Nat → UInt64} {b L n cc9 ss9 : Nat} {xs : Nat → Int32} {x1 x2 x3 : Int32} (hfl : l.flags = flags0) {K : St → (Nat → Int64) → (Nat → UInt64) → St → Prop} (hv : V_case0 x1 x2 x3 g f fd mu K)
    (hC : uC p m c cL_law 9 s args wsL_law RL D cs az F) (hX : va_X b L xs s s.heap) (hbl : b < s.heap.size) (hbF : ¬ F b) (hin1 : vp_in (nI (4 * n) + 1) L) (hin2 : vp_in (nI (4 * n) + 2) L) (hin3 : vp_in (nI (4 * n) + 3) L) (hx1 : xs (nI (4 * n) + 1).toNatClampNeg = x1) (hx2 : xs (nI (4 * n) + 2).toNatClampNeg = x2) (hx3 : xs (nI (4 * n) + 3).toNatClampNeg = x3)
    (hcR : cc9 + 4 ≤ room_1.cells) (hsR : ss9 + 24 ≤ room_1.slots)
    (hK : ∀ g' f' fd' mu', K g' f' fd' mu' → ∀ (H : Heap) (locs : List Loc) (ls : Array Slot), uZ D cs a bm ao ad F s g' f' fd' mu' H locs → lv_has ls 9 [(0, .ref b), (1, .ref (a 0)), (2, .ref (bm 0)), (3, .ref ao), (4, .ref ad), (5, .int (nI (4 * n)))] → W p l e room_1 s m args below meth c H locs (cc9 + 4) (ss9 + 24) Q (F0 m 1641 ls []))
    (hZ : uZ D cs a bm ao ad F s g f fd mu H locs) (hl : lv_has ls 9 [(0, .ref b), (1, .ref (a 0)), (2, .ref (bm 0)), (3, .ref ao), (4, .ref ad), (5, .int (nI (4 * n)))]) : W p l e room_1 s m args below meth c H locs cc9 ss9 Q (F0 m 164 ls []) := by
  have hx := hC.1.1; have hb := hC.1.2.1; have hml := hC.1.2.2.1; have hts := hC.1.2.2.2.2
  have hown : s.vm.findClass RL = some m.cls := hC.1.2.2.2.1
  have hcR0 : cc9 ≤ room_1.cells := Nat.le_trans (Nat.le_add_right _ _) hcR; have hsR0 : ss9 ≤ room_1.slots := Nat.le_trans (Nat.le_add_right _ _) hsR
  unfold V_case0 at hv
  refine lv_aload_n hx hb dL_law_164 rfl (lv_at hl 1 rfl) ?_
  refine lv_aload_n hx hb dL_law_165 rfl (lv_at hl 0 rfl) ?_
  refine lv_iload hx hb dL_law_166 (lv_at hl 5 rfl) ?_
  refine lv_iconst (v := 1) hx hb dL_law_168 (by decide) ?_
  refine lv_iadd hx hb dL_law_169 ?_
  refine Z_sld hC hZ hX hbl hbF hin1 hx1 dL_law_170 ?_
  refine lv_aload_n hx hb dL_law_171 rfl (lv_at hl 3 rfl) ?_
  refine Z_callL hC (c_L_setSeed l hfl D cs az a ao x1 g f _ hv) (vx_cwSW 3 hts gL_law_L_setSeed rfl rfl rfl (by decide +kernel) ⟨Nat.le_of_ble_eq_true rfl, Nat.le_of_ble_eq_true rfl⟩) rfl hl rfl (Nat.le_of_ble_eq_true rfl) dL_law_172 hZ hcR hsR (fun k1 g2 f3 H locs hv hZ => ?_)
  refine lv_istore (lv' := [(6, .int k1), (0, .ref b), (1, .ref (a 0)), (2, .ref (bm 0)), (3, .ref ao), (4, .ref ad), (5, .int (nI (4 * n)))]) hx hb dL_law_175 hl (by decide) rfl (fun ls hl => ?_)
  refine lv_aload_n hx hb dL_law_177 rfl (lv_at hl 3 rfl) ?_
  refine lv_aload_n hx hb dL_law_178 rfl (lv_at hl 1 rfl) ?_
  refine lv_iload hx hb dL_law_179 (lv_at hl 6 rfl) ?_
  refine lv_iconst (v := 1) hx hb dL_law_181 (by decide) ?_
  refine lv_iadd hx hb dL_law_182 ?_
  refine Z_sld hC hZ hX hbl hbF hin1 hx1 dL_law_183 ?_
  refine Z_callMi hC (c_X7_setSeed l D cs az bm x1 mu _ hv) (cwV 1 hts gL_law_X7_setSeed rfl rfl rfl (by decide +kernel) ⟨Nat.le_of_ble_eq_true rfl, Nat.le_of_ble_eq_true rfl⟩) rfl hl rfl (Nat.le_of_ble_eq_true rfl) dL_law_184 hZ hcR hsR (fun r4 mu5 H locs hv hZ => ?_)
  refine lv_istore (lv' := [(7, .int r4), (6, .int k1), (0, .ref b), (1, .ref (a 0)), (2, .ref (bm 0)), (3, .ref ao), (4, .ref ad), (5, .int (nI (4 * n)))]) hx hb dL_law_187 hl (by decide) rfl (fun ls hl => ?_)
  refine lv_aload_n hx hb dL_law_189 rfl (lv_at hl 4 rfl) ?_
  refine Z_callMi hC (c_X7_thrown l D cs az bm  mu5 _ hv) (cwV 0 hts gL_law_X7_thrown rfl rfl rfl (by decide +kernel) ⟨Nat.le_of_ble_eq_true rfl, Nat.le_of_ble_eq_true rfl⟩) rfl hl rfl (Nat.le_of_ble_eq_true rfl) dL_law_190 hZ hcR hsR (fun r6 mu7 H locs hv hZ => ?_)
  refine lv_iload hx hb dL_law_193 (lv_at hl 1 rfl) ?_
  refine lv_icmp_eq (tgt := 200) hx hb dL_law_195 (by decide) (fun c => ?_) (fun c => ?_)
  · have hv := hv.1 c
    refine lv_iload hx hb dL_law_200 (lv_at hl 1 rfl) ?_
    refine lv_if_ne (tgt := 217) hx hb dL_law_202 (by decide) (fun c => ?_) (fun c => ?_)
    · have hv := hv.1 c
      refine lv_goto (tgt := 1641) hx hb dL_law_217 (by decide) ?_
      exact hK g2 f3 fd mu7 hv _ _ _ hZ (lv_sub hl [2, 3, 4, 5, 6, 7] rfl)
    · have hv := hv.2 c
      refine lv_aload_n hx hb dL_law_205 rfl (lv_at hl 5 rfl) ?_
      refine lv_iconst (v := 0) hx hb dL_law_206 (by decide) ?_
      refine Z_lald hC hZ dL_law_207 ?_
      refine lv_iload hx hb dL_law_208 (lv_at hl 0 rfl) ?_
      refine lv_i2l (v := Int32.toInt64 r4) hx hb dL_law_210 rfl ?_
      refine W.lcmp hx hb dL_law_211 ?_
      refine lv_if_eq (tgt := 217) hx hb dL_law_212 (by decide) (fun c => ?_) (fun c => ?_)
      · have hv := hv.1 c
        refine lv_goto (tgt := 1641) hx hb dL_law_217 (by decide) ?_
        exact hK g2 f3 fd mu7 hv _ _ _ hZ (lv_sub hl [2, 3, 4, 5, 6, 7] rfl)
      · have hv := hv.2 c
        exact False.elim hv
  · have hv := hv.2 c
    exact False.elim hv
def V_case1 (x1 x2 x3 : Int32) (g : St) (f : Nat → Int64) (fd : Nat → UInt64) (mu : St) (K : St → (Nat → Int64) → (Nat → UInt64) → St → Prop) : Prop := V_L_ground x1 g f (fun k1 z => V_X7_ground x1 mu (fun r4 mu5 => V_X7_thrown  mu5 (fun r6 mu7 => ((r6 = k1 → ((¬ k1 = 0 → K z.1 z.2 fd mu7) ∧ (k1 = 0 → (((lg_cmp (z.2 0) (Int32.toInt64 r4)) = 0 → K z.1 z.2 fd mu7) ∧ (¬ (lg_cmp (z.2 0) (Int32.toInt64 r4)) = 0 → False))))) ∧ (¬ r6 = k1 → False)))))
set_option maxHeartbeats 4000000 in
set_option maxRecDepth 100000 in
theorem law_case1 {p : Program} {l : Launch} {e : Env} {s : State} {m : MethodId} {args : Array Value} {below : List Frame} {meth : Method} {c : Code} {H : Heap} {locs : List Loc} {Q : State → Prop} {ls : Array Slot} {D : va_G} {cs az a bm : Nat → Nat} {ao ad : Nat} {F : Nat → Prop} {g mu : St} {f : Nat → Int64} {fd : Nat → UInt64} {b L n cc9 ss9 : Nat} {xs : Nat → Int32} {x1 x2 x3 : Int32} (hfl : l.flags = flags0) {K : St → (Nat → Int64) → (Nat → UInt64) → St → Prop} (hv : V_case1 x1 x2 x3 g f fd mu K)
    (hC : uC p m c cL_law 9 s args wsL_law RL D cs az F) (hX : va_X b L xs s s.heap) (hbl : b < s.heap.size) (hbF : ¬ F b) (hin1 : vp_in (nI (4 * n) + 1) L) (hin2 : vp_in (nI (4 * n) + 2) L) (hin3 : vp_in (nI (4 * n) + 3) L) (hx1 : xs (nI (4 * n) + 1).toNatClampNeg = x1) (hx2 : xs (nI (4 * n) + 2).toNatClampNeg = x2) (hx3 : xs (nI (4 * n) + 3).toNatClampNeg = x3)
    (hcR : cc9 + 4 ≤ room_1.cells) (hsR : ss9 + 24 ≤ room_1.slots)
    (hK : ∀ g' f' fd' mu', K g' f' fd' mu' → ∀ (H : Heap) (locs : List Loc) (ls : Array Slot), uZ D cs a bm ao ad F s g' f' fd' mu' H locs → lv_has ls 9 [(0, .ref b), (1, .ref (a 0)), (2, .ref (bm 0)), (3, .ref ao), (4, .ref ad), (5, .int (nI (4 * n)))] → W p l e room_1 s m args below meth c H locs (cc9 + 4) (ss9 + 24) Q (F0 m 1641 ls []))
    (hZ : uZ D cs a bm ao ad F s g f fd mu H locs) (hl : lv_has ls 9 [(0, .ref b), (1, .ref (a 0)), (2, .ref (bm 0)), (3, .ref ao), (4, .ref ad), (5, .int (nI (4 * n)))]) : W p l e room_1 s m args below meth c H locs cc9 ss9 Q (F0 m 220 ls []) := by
  have hx := hC.1.1; have hb := hC.1.2.1; have hml := hC.1.2.2.1; have hts := hC.1.2.2.2.2
  have hown : s.vm.findClass RL = some m.cls := hC.1.2.2.2.1
  have hcR0 : cc9 ≤ room_1.cells := Nat.le_trans (Nat.le_add_right _ _) hcR; have hsR0 : ss9 ≤ room_1.slots := Nat.le_trans (Nat.le_add_right _ _) hsR
  unfold V_case1 at hv
  refine lv_aload_n hx hb dL_law_220 rfl (lv_at hl 1 rfl) ?_
  refine lv_aload_n hx hb dL_law_221 rfl (lv_at hl 0 rfl) ?_
  refine lv_iload hx hb dL_law_222 (lv_at hl 5 rfl) ?_
  refine lv_iconst (v := 1) hx hb dL_law_224 (by decide) ?_
  refine lv_iadd hx hb dL_law_225 ?_
  refine Z_sld hC hZ hX hbl hbF hin1 hx1 dL_law_226 ?_
  refine lv_aload_n hx hb dL_law_227 rfl (lv_at hl 3 rfl) ?_
  refine Z_callL hC (c_L_ground l hfl D cs az a ao x1 g f _ hv) (vx_cwSW 3 hts gL_law_L_ground rfl rfl rfl (by decide +kernel) ⟨Nat.le_of_ble_eq_true rfl, Nat.le_of_ble_eq_true rfl⟩) rfl hl rfl (Nat.le_of_ble_eq_true rfl) dL_law_228 hZ hcR hsR (fun k1 g2 f3 H locs hv hZ => ?_)
  refine lv_istore (lv' := [(6, .int k1), (0, .ref b), (1, .ref (a 0)), (2, .ref (bm 0)), (3, .ref ao), (4, .ref ad), (5, .int (nI (4 * n)))]) hx hb dL_law_231 hl (by decide) rfl (fun ls hl => ?_)
  refine lv_aload_n hx hb dL_law_233 rfl (lv_at hl 3 rfl) ?_
  refine lv_aload_n hx hb dL_law_234 rfl (lv_at hl 1 rfl) ?_
  refine lv_iload hx hb dL_law_235 (lv_at hl 6 rfl) ?_
  refine lv_iconst (v := 1) hx hb dL_law_237 (by decide) ?_
  refine lv_iadd hx hb dL_law_238 ?_
  refine Z_sld hC hZ hX hbl hbF hin1 hx1 dL_law_239 ?_
  refine Z_callMi hC (c_X7_ground l D cs az bm x1 mu _ hv) (cwV 1 hts gL_law_X7_ground rfl rfl rfl (by decide +kernel) ⟨Nat.le_of_ble_eq_true rfl, Nat.le_of_ble_eq_true rfl⟩) rfl hl rfl (Nat.le_of_ble_eq_true rfl) dL_law_240 hZ hcR hsR (fun r4 mu5 H locs hv hZ => ?_)
  refine lv_istore (lv' := [(7, .int r4), (6, .int k1), (0, .ref b), (1, .ref (a 0)), (2, .ref (bm 0)), (3, .ref ao), (4, .ref ad), (5, .int (nI (4 * n)))]) hx hb dL_law_243 hl (by decide) rfl (fun ls hl => ?_)
  refine lv_aload_n hx hb dL_law_245 rfl (lv_at hl 4 rfl) ?_
  refine Z_callMi hC (c_X7_thrown l D cs az bm  mu5 _ hv) (cwV 0 hts gL_law_X7_thrown rfl rfl rfl (by decide +kernel) ⟨Nat.le_of_ble_eq_true rfl, Nat.le_of_ble_eq_true rfl⟩) rfl hl rfl (Nat.le_of_ble_eq_true rfl) dL_law_246 hZ hcR hsR (fun r6 mu7 H locs hv hZ => ?_)
  refine lv_iload hx hb dL_law_249 (lv_at hl 1 rfl) ?_
  refine lv_icmp_eq (tgt := 256) hx hb dL_law_251 (by decide) (fun c => ?_) (fun c => ?_)
  · have hv := hv.1 c
    refine lv_iload hx hb dL_law_256 (lv_at hl 1 rfl) ?_
    refine lv_if_ne (tgt := 273) hx hb dL_law_258 (by decide) (fun c => ?_) (fun c => ?_)
    · have hv := hv.1 c
      refine lv_goto (tgt := 1641) hx hb dL_law_273 (by decide) ?_
      exact hK g2 f3 fd mu7 hv _ _ _ hZ (lv_sub hl [2, 3, 4, 5, 6, 7] rfl)
    · have hv := hv.2 c
      refine lv_aload_n hx hb dL_law_261 rfl (lv_at hl 5 rfl) ?_
      refine lv_iconst (v := 0) hx hb dL_law_262 (by decide) ?_
      refine Z_lald hC hZ dL_law_263 ?_
      refine lv_iload hx hb dL_law_264 (lv_at hl 0 rfl) ?_
      refine lv_i2l (v := Int32.toInt64 r4) hx hb dL_law_266 rfl ?_
      refine W.lcmp hx hb dL_law_267 ?_
      refine lv_if_eq (tgt := 273) hx hb dL_law_268 (by decide) (fun c => ?_) (fun c => ?_)
      · have hv := hv.1 c
        refine lv_goto (tgt := 1641) hx hb dL_law_273 (by decide) ?_
        exact hK g2 f3 fd mu7 hv _ _ _ hZ (lv_sub hl [2, 3, 4, 5, 6, 7] rfl)
      · have hv := hv.2 c
        exact False.elim hv
  · have hv := hv.2 c
    exact False.elim hv
def V_case2 (x1 x2 x3 : Int32) (g : St) (f : Nat → Int64) (fd : Nat → UInt64) (mu : St) (K : St → (Nat → Int64) → (Nat → UInt64) → St → Prop) : Prop := V_L_addUnit x1 ((Int32.toUInt32 x2 % 65536).toInt32) x3 g f (fun k1 z => V_X7_addUnit x1 ((Int32.toUInt32 x2 % 65536).toInt32) x3 mu (fun r4 mu5 => V_X7_thrown  mu5 (fun r6 mu7 => ((r6 = k1 → ((¬ k1 = 0 → K z.1 z.2 fd mu7) ∧ (k1 = 0 → (((lg_cmp (z.2 0) (Int32.toInt64 r4)) = 0 → K z.1 z.2 fd mu7) ∧ (¬ (lg_cmp (z.2 0) (Int32.toInt64 r4)) = 0 → False))))) ∧ (¬ r6 = k1 → False)))))
set_option maxHeartbeats 4000000 in
set_option maxRecDepth 100000 in
theorem law_case2 {p : Program} {l : Launch} {e : Env} {s : State} {m : MethodId} {args : Array Value} {below : List Frame} {meth : Method} {c : Code} {H : Heap} {locs : List Loc} {Q : State → Prop} {ls : Array Slot} {D : va_G} {cs az a bm : Nat → Nat} {ao ad : Nat} {F : Nat → Prop} {g mu : St} {f : Nat → Int64} {fd : Nat → UInt64} {b L n cc9 ss9 : Nat} {xs : Nat → Int32} {x1 x2 x3 : Int32} (hfl : l.flags = flags0) {K : St → (Nat → Int64) → (Nat → UInt64) → St → Prop} (hv : V_case2 x1 x2 x3 g f fd mu K)
    (hC : uC p m c cL_law 9 s args wsL_law RL D cs az F) (hX : va_X b L xs s s.heap) (hbl : b < s.heap.size) (hbF : ¬ F b) (hin1 : vp_in (nI (4 * n) + 1) L) (hin2 : vp_in (nI (4 * n) + 2) L) (hin3 : vp_in (nI (4 * n) + 3) L) (hx1 : xs (nI (4 * n) + 1).toNatClampNeg = x1) (hx2 : xs (nI (4 * n) + 2).toNatClampNeg = x2) (hx3 : xs (nI (4 * n) + 3).toNatClampNeg = x3)
    (hcR : cc9 + 4 ≤ room_1.cells) (hsR : ss9 + 24 ≤ room_1.slots)
    (hK : ∀ g' f' fd' mu', K g' f' fd' mu' → ∀ (H : Heap) (locs : List Loc) (ls : Array Slot), uZ D cs a bm ao ad F s g' f' fd' mu' H locs → lv_has ls 9 [(0, .ref b), (1, .ref (a 0)), (2, .ref (bm 0)), (3, .ref ao), (4, .ref ad), (5, .int (nI (4 * n)))] → W p l e room_1 s m args below meth c H locs (cc9 + 4) (ss9 + 24) Q (F0 m 1641 ls []))
    (hZ : uZ D cs a bm ao ad F s g f fd mu H locs) (hl : lv_has ls 9 [(0, .ref b), (1, .ref (a 0)), (2, .ref (bm 0)), (3, .ref ao), (4, .ref ad), (5, .int (nI (4 * n)))]) : W p l e room_1 s m args below meth c H locs cc9 ss9 Q (F0 m 276 ls []) := by
  have hx := hC.1.1; have hb := hC.1.2.1; have hml := hC.1.2.2.1; have hts := hC.1.2.2.2.2
  have hown : s.vm.findClass RL = some m.cls := hC.1.2.2.2.1
  have hcR0 : cc9 ≤ room_1.cells := Nat.le_trans (Nat.le_add_right _ _) hcR; have hsR0 : ss9 ≤ room_1.slots := Nat.le_trans (Nat.le_add_right _ _) hsR
  unfold V_case2 at hv
  refine lv_aload_n hx hb dL_law_276 rfl (lv_at hl 1 rfl) ?_
  refine lv_aload_n hx hb dL_law_277 rfl (lv_at hl 0 rfl) ?_
  refine lv_iload hx hb dL_law_278 (lv_at hl 5 rfl) ?_
  refine lv_iconst (v := 1) hx hb dL_law_280 (by decide) ?_
  refine lv_iadd hx hb dL_law_281 ?_
  refine Z_sld hC hZ hX hbl hbF hin1 hx1 dL_law_282 ?_
  refine lv_aload_n hx hb dL_law_283 rfl (lv_at hl 0 rfl) ?_
  refine lv_iload hx hb dL_law_284 (lv_at hl 5 rfl) ?_
  refine lv_iconst (v := 2) hx hb dL_law_286 (by decide) ?_
  refine lv_iadd hx hb dL_law_287 ?_
  refine Z_sld hC hZ hX hbl hbF hin2 hx2 dL_law_288 ?_
  refine lv_i2c (v := (Int32.toUInt32 x2 % 65536).toInt32) hx hb dL_law_289 rfl ?_
  refine lv_aload_n hx hb dL_law_290 rfl (lv_at hl 0 rfl) ?_
  refine lv_iload hx hb dL_law_291 (lv_at hl 5 rfl) ?_
  refine lv_iconst (v := 3) hx hb dL_law_293 (by decide) ?_
  refine lv_iadd hx hb dL_law_294 ?_
  refine Z_sld hC hZ hX hbl hbF hin3 hx3 dL_law_295 ?_
  refine lv_aload_n hx hb dL_law_296 rfl (lv_at hl 3 rfl) ?_
  refine Z_callL hC (c_L_addUnit l hfl D cs az a ao x1 ((Int32.toUInt32 x2 % 65536).toInt32) x3 g f _ hv) (vx_cwSW 5 hts gL_law_L_addUnit rfl rfl rfl (by decide +kernel) ⟨Nat.le_of_ble_eq_true rfl, Nat.le_of_ble_eq_true rfl⟩) rfl hl rfl (Nat.le_of_ble_eq_true rfl) dL_law_297 hZ hcR hsR (fun k1 g2 f3 H locs hv hZ => ?_)
  refine lv_istore (lv' := [(6, .int k1), (0, .ref b), (1, .ref (a 0)), (2, .ref (bm 0)), (3, .ref ao), (4, .ref ad), (5, .int (nI (4 * n)))]) hx hb dL_law_300 hl (by decide) rfl (fun ls hl => ?_)
  refine lv_aload_n hx hb dL_law_302 rfl (lv_at hl 3 rfl) ?_
  refine lv_aload_n hx hb dL_law_303 rfl (lv_at hl 1 rfl) ?_
  refine lv_iload hx hb dL_law_304 (lv_at hl 6 rfl) ?_
  refine lv_iconst (v := 1) hx hb dL_law_306 (by decide) ?_
  refine lv_iadd hx hb dL_law_307 ?_
  refine Z_sld hC hZ hX hbl hbF hin1 hx1 dL_law_308 ?_
  refine lv_aload_n hx hb dL_law_309 rfl (lv_at hl 1 rfl) ?_
  refine lv_iload hx hb dL_law_310 (lv_at hl 6 rfl) ?_
  refine lv_iconst (v := 2) hx hb dL_law_312 (by decide) ?_
  refine lv_iadd hx hb dL_law_313 ?_
  refine Z_sld hC hZ hX hbl hbF hin2 hx2 dL_law_314 ?_
  refine lv_i2c (v := (Int32.toUInt32 x2 % 65536).toInt32) hx hb dL_law_315 rfl ?_
  refine lv_aload_n hx hb dL_law_316 rfl (lv_at hl 1 rfl) ?_
  refine lv_iload hx hb dL_law_317 (lv_at hl 6 rfl) ?_
  refine lv_iconst (v := 3) hx hb dL_law_319 (by decide) ?_
  refine lv_iadd hx hb dL_law_320 ?_
  refine Z_sld hC hZ hX hbl hbF hin3 hx3 dL_law_321 ?_
  refine Z_callMi hC (c_X7_addUnit l D cs az bm x1 ((Int32.toUInt32 x2 % 65536).toInt32) x3 mu _ hv) (cwV 3 hts gL_law_X7_addUnit rfl rfl rfl (by decide +kernel) ⟨Nat.le_of_ble_eq_true rfl, Nat.le_of_ble_eq_true rfl⟩) rfl hl rfl (Nat.le_of_ble_eq_true rfl) dL_law_322 hZ hcR hsR (fun r4 mu5 H locs hv hZ => ?_)
  refine lv_istore (lv' := [(7, .int r4), (6, .int k1), (0, .ref b), (1, .ref (a 0)), (2, .ref (bm 0)), (3, .ref ao), (4, .ref ad), (5, .int (nI (4 * n)))]) hx hb dL_law_325 hl (by decide) rfl (fun ls hl => ?_)
  refine lv_aload_n hx hb dL_law_327 rfl (lv_at hl 4 rfl) ?_
  refine Z_callMi hC (c_X7_thrown l D cs az bm  mu5 _ hv) (cwV 0 hts gL_law_X7_thrown rfl rfl rfl (by decide +kernel) ⟨Nat.le_of_ble_eq_true rfl, Nat.le_of_ble_eq_true rfl⟩) rfl hl rfl (Nat.le_of_ble_eq_true rfl) dL_law_328 hZ hcR hsR (fun r6 mu7 H locs hv hZ => ?_)
  refine lv_iload hx hb dL_law_331 (lv_at hl 1 rfl) ?_
  refine lv_icmp_eq (tgt := 338) hx hb dL_law_333 (by decide) (fun c => ?_) (fun c => ?_)
  · have hv := hv.1 c
    refine lv_iload hx hb dL_law_338 (lv_at hl 1 rfl) ?_
    refine lv_if_ne (tgt := 355) hx hb dL_law_340 (by decide) (fun c => ?_) (fun c => ?_)
    · have hv := hv.1 c
      refine lv_goto (tgt := 1641) hx hb dL_law_355 (by decide) ?_
      exact hK g2 f3 fd mu7 hv _ _ _ hZ (lv_sub hl [2, 3, 4, 5, 6, 7] rfl)
    · have hv := hv.2 c
      refine lv_aload_n hx hb dL_law_343 rfl (lv_at hl 5 rfl) ?_
      refine lv_iconst (v := 0) hx hb dL_law_344 (by decide) ?_
      refine Z_lald hC hZ dL_law_345 ?_
      refine lv_iload hx hb dL_law_346 (lv_at hl 0 rfl) ?_
      refine lv_i2l (v := Int32.toInt64 r4) hx hb dL_law_348 rfl ?_
      refine W.lcmp hx hb dL_law_349 ?_
      refine lv_if_eq (tgt := 355) hx hb dL_law_350 (by decide) (fun c => ?_) (fun c => ?_)
      · have hv := hv.1 c
        refine lv_goto (tgt := 1641) hx hb dL_law_355 (by decide) ?_
        exact hK g2 f3 fd mu7 hv _ _ _ hZ (lv_sub hl [2, 3, 4, 5, 6, 7] rfl)
      · have hv := hv.2 c
        exact False.elim hv
  · have hv := hv.2 c
    exact False.elim hv
def V_case3 (x1 x2 x3 : Int32) (g : St) (f : Nat → Int64) (fd : Nat → UInt64) (mu : St) (K : St → (Nat → Int64) → (Nat → UInt64) → St → Prop) : Prop := V_L_order x1 x2 g f (fun k1 z => V_X7_order x1 x2 mu (fun r4 mu5 => V_X7_thrown  mu5 (fun r6 mu7 => ((r6 = k1 → ((¬ k1 = 0 → K z.1 z.2 fd mu7) ∧ (k1 = 0 → (((lg_cmp (z.2 0) (Int32.toInt64 r4)) = 0 → K z.1 z.2 fd mu7) ∧ (¬ (lg_cmp (z.2 0) (Int32.toInt64 r4)) = 0 → False))))) ∧ (¬ r6 = k1 → False)))))
set_option maxHeartbeats 4000000 in
set_option maxRecDepth 100000 in
theorem law_case3 {p : Program} {l : Launch} {e : Env} {s : State} {m : MethodId} {args : Array Value} {below : List Frame} {meth : Method} {c : Code} {H : Heap} {locs : List Loc} {Q : State → Prop} {ls : Array Slot} {D : va_G} {cs az a bm : Nat → Nat} {ao ad : Nat} {F : Nat → Prop} {g mu : St} {f : Nat → Int64} {fd : Nat → UInt64} {b L n cc9 ss9 : Nat} {xs : Nat → Int32} {x1 x2 x3 : Int32} (hfl : l.flags = flags0) {K : St → (Nat → Int64) → (Nat → UInt64) → St → Prop} (hv : V_case3 x1 x2 x3 g f fd mu K)
    (hC : uC p m c cL_law 9 s args wsL_law RL D cs az F) (hX : va_X b L xs s s.heap) (hbl : b < s.heap.size) (hbF : ¬ F b) (hin1 : vp_in (nI (4 * n) + 1) L) (hin2 : vp_in (nI (4 * n) + 2) L) (hin3 : vp_in (nI (4 * n) + 3) L) (hx1 : xs (nI (4 * n) + 1).toNatClampNeg = x1) (hx2 : xs (nI (4 * n) + 2).toNatClampNeg = x2) (hx3 : xs (nI (4 * n) + 3).toNatClampNeg = x3)
    (hcR : cc9 + 4 ≤ room_1.cells) (hsR : ss9 + 24 ≤ room_1.slots)
    (hK : ∀ g' f' fd' mu', K g' f' fd' mu' → ∀ (H : Heap) (locs : List Loc) (ls : Array Slot), uZ D cs a bm ao ad F s g' f' fd' mu' H locs → lv_has ls 9 [(0, .ref b), (1, .ref (a 0)), (2, .ref (bm 0)), (3, .ref ao), (4, .ref ad), (5, .int (nI (4 * n)))] → W p l e room_1 s m args below meth c H locs (cc9 + 4) (ss9 + 24) Q (F0 m 1641 ls []))
    (hZ : uZ D cs a bm ao ad F s g f fd mu H locs) (hl : lv_has ls 9 [(0, .ref b), (1, .ref (a 0)), (2, .ref (bm 0)), (3, .ref ao), (4, .ref ad), (5, .int (nI (4 * n)))]) : W p l e room_1 s m args below meth c H locs cc9 ss9 Q (F0 m 358 ls []) := by
  have hx := hC.1.1; have hb := hC.1.2.1; have hml := hC.1.2.2.1; have hts := hC.1.2.2.2.2
  have hown : s.vm.findClass RL = some m.cls := hC.1.2.2.2.1
  have hcR0 : cc9 ≤ room_1.cells := Nat.le_trans (Nat.le_add_right _ _) hcR; have hsR0 : ss9 ≤ room_1.slots := Nat.le_trans (Nat.le_add_right _ _) hsR
  unfold V_case3 at hv
  refine lv_aload_n hx hb dL_law_358 rfl (lv_at hl 1 rfl) ?_
  refine lv_aload_n hx hb dL_law_359 rfl (lv_at hl 0 rfl) ?_
  refine lv_iload hx hb dL_law_360 (lv_at hl 5 rfl) ?_
  refine lv_iconst (v := 1) hx hb dL_law_362 (by decide) ?_
  refine lv_iadd hx hb dL_law_363 ?_
  refine Z_sld hC hZ hX hbl hbF hin1 hx1 dL_law_364 ?_
  refine lv_aload_n hx hb dL_law_365 rfl (lv_at hl 0 rfl) ?_
  refine lv_iload hx hb dL_law_366 (lv_at hl 5 rfl) ?_
  refine lv_iconst (v := 2) hx hb dL_law_368 (by decide) ?_
  refine lv_iadd hx hb dL_law_369 ?_
  refine Z_sld hC hZ hX hbl hbF hin2 hx2 dL_law_370 ?_
  refine lv_aload_n hx hb dL_law_371 rfl (lv_at hl 3 rfl) ?_
  refine Z_callL hC (c_L_order l hfl D cs az a ao x1 x2 g f _ hv) (vx_cwSW 4 hts gL_law_L_order rfl rfl rfl (by decide +kernel) ⟨Nat.le_of_ble_eq_true rfl, Nat.le_of_ble_eq_true rfl⟩) rfl hl rfl (Nat.le_of_ble_eq_true rfl) dL_law_372 hZ hcR hsR (fun k1 g2 f3 H locs hv hZ => ?_)
  refine lv_istore (lv' := [(6, .int k1), (0, .ref b), (1, .ref (a 0)), (2, .ref (bm 0)), (3, .ref ao), (4, .ref ad), (5, .int (nI (4 * n)))]) hx hb dL_law_375 hl (by decide) rfl (fun ls hl => ?_)
  refine lv_aload_n hx hb dL_law_377 rfl (lv_at hl 3 rfl) ?_
  refine lv_aload_n hx hb dL_law_378 rfl (lv_at hl 1 rfl) ?_
  refine lv_iload hx hb dL_law_379 (lv_at hl 6 rfl) ?_
  refine lv_iconst (v := 1) hx hb dL_law_381 (by decide) ?_
  refine lv_iadd hx hb dL_law_382 ?_
  refine Z_sld hC hZ hX hbl hbF hin1 hx1 dL_law_383 ?_
  refine lv_aload_n hx hb dL_law_384 rfl (lv_at hl 1 rfl) ?_
  refine lv_iload hx hb dL_law_385 (lv_at hl 6 rfl) ?_
  refine lv_iconst (v := 2) hx hb dL_law_387 (by decide) ?_
  refine lv_iadd hx hb dL_law_388 ?_
  refine Z_sld hC hZ hX hbl hbF hin2 hx2 dL_law_389 ?_
  refine Z_callMi hC (c_X7_order l D cs az bm x1 x2 mu _ hv) (cwV 2 hts gL_law_X7_order rfl rfl rfl (by decide +kernel) ⟨Nat.le_of_ble_eq_true rfl, Nat.le_of_ble_eq_true rfl⟩) rfl hl rfl (Nat.le_of_ble_eq_true rfl) dL_law_390 hZ hcR hsR (fun r4 mu5 H locs hv hZ => ?_)
  refine lv_istore (lv' := [(7, .int r4), (6, .int k1), (0, .ref b), (1, .ref (a 0)), (2, .ref (bm 0)), (3, .ref ao), (4, .ref ad), (5, .int (nI (4 * n)))]) hx hb dL_law_393 hl (by decide) rfl (fun ls hl => ?_)
  refine lv_aload_n hx hb dL_law_395 rfl (lv_at hl 4 rfl) ?_
  refine Z_callMi hC (c_X7_thrown l D cs az bm  mu5 _ hv) (cwV 0 hts gL_law_X7_thrown rfl rfl rfl (by decide +kernel) ⟨Nat.le_of_ble_eq_true rfl, Nat.le_of_ble_eq_true rfl⟩) rfl hl rfl (Nat.le_of_ble_eq_true rfl) dL_law_396 hZ hcR hsR (fun r6 mu7 H locs hv hZ => ?_)
  refine lv_iload hx hb dL_law_399 (lv_at hl 1 rfl) ?_
  refine lv_icmp_eq (tgt := 406) hx hb dL_law_401 (by decide) (fun c => ?_) (fun c => ?_)
  · have hv := hv.1 c
    refine lv_iload hx hb dL_law_406 (lv_at hl 1 rfl) ?_
    refine lv_if_ne (tgt := 423) hx hb dL_law_408 (by decide) (fun c => ?_) (fun c => ?_)
    · have hv := hv.1 c
      refine lv_goto (tgt := 1641) hx hb dL_law_423 (by decide) ?_
      exact hK g2 f3 fd mu7 hv _ _ _ hZ (lv_sub hl [2, 3, 4, 5, 6, 7] rfl)
    · have hv := hv.2 c
      refine lv_aload_n hx hb dL_law_411 rfl (lv_at hl 5 rfl) ?_
      refine lv_iconst (v := 0) hx hb dL_law_412 (by decide) ?_
      refine Z_lald hC hZ dL_law_413 ?_
      refine lv_iload hx hb dL_law_414 (lv_at hl 0 rfl) ?_
      refine lv_i2l (v := Int32.toInt64 r4) hx hb dL_law_416 rfl ?_
      refine W.lcmp hx hb dL_law_417 ?_
      refine lv_if_eq (tgt := 423) hx hb dL_law_418 (by decide) (fun c => ?_) (fun c => ?_)
      · have hv := hv.1 c
        refine lv_goto (tgt := 1641) hx hb dL_law_423 (by decide) ?_
        exact hK g2 f3 fd mu7 hv _ _ _ hZ (lv_sub hl [2, 3, 4, 5, 6, 7] rfl)
      · have hv := hv.2 c
        exact False.elim hv
  · have hv := hv.2 c
    exact False.elim hv
def V_case4 (x1 x2 x3 : Int32) (g : St) (f : Nat → Int64) (fd : Nat → UInt64) (mu : St) (K : St → (Nat → Int64) → (Nat → UInt64) → St → Prop) : Prop := V_L_turn  g f (fun k1 z => V_X7_turn  mu (fun r4 mu5 => V_X7_thrown  mu5 (fun r6 mu7 => ((r6 = k1 → ((¬ k1 = 0 → K z.1 z.2 fd mu7) ∧ (k1 = 0 → (((lg_cmp (z.2 0) (Int32.toInt64 r4)) = 0 → K z.1 z.2 fd mu7) ∧ (¬ (lg_cmp (z.2 0) (Int32.toInt64 r4)) = 0 → False))))) ∧ (¬ r6 = k1 → False)))))
set_option maxHeartbeats 4000000 in
set_option maxRecDepth 100000 in
theorem law_case4 {p : Program} {l : Launch} {e : Env} {s : State} {m : MethodId} {args : Array Value} {below : List Frame} {meth : Method} {c : Code} {H : Heap} {locs : List Loc} {Q : State → Prop} {ls : Array Slot} {D : va_G} {cs az a bm : Nat → Nat} {ao ad : Nat} {F : Nat → Prop} {g mu : St} {f : Nat → Int64} {fd : Nat → UInt64} {b L n cc9 ss9 : Nat} {xs : Nat → Int32} {x1 x2 x3 : Int32} (hfl : l.flags = flags0) {K : St → (Nat → Int64) → (Nat → UInt64) → St → Prop} (hv : V_case4 x1 x2 x3 g f fd mu K)
    (hC : uC p m c cL_law 9 s args wsL_law RL D cs az F) (hX : va_X b L xs s s.heap) (hbl : b < s.heap.size) (hbF : ¬ F b) (hin1 : vp_in (nI (4 * n) + 1) L) (hin2 : vp_in (nI (4 * n) + 2) L) (hin3 : vp_in (nI (4 * n) + 3) L) (hx1 : xs (nI (4 * n) + 1).toNatClampNeg = x1) (hx2 : xs (nI (4 * n) + 2).toNatClampNeg = x2) (hx3 : xs (nI (4 * n) + 3).toNatClampNeg = x3)
    (hcR : cc9 + 4 ≤ room_1.cells) (hsR : ss9 + 24 ≤ room_1.slots)
    (hK : ∀ g' f' fd' mu', K g' f' fd' mu' → ∀ (H : Heap) (locs : List Loc) (ls : Array Slot), uZ D cs a bm ao ad F s g' f' fd' mu' H locs → lv_has ls 9 [(0, .ref b), (1, .ref (a 0)), (2, .ref (bm 0)), (3, .ref ao), (4, .ref ad), (5, .int (nI (4 * n)))] → W p l e room_1 s m args below meth c H locs (cc9 + 4) (ss9 + 24) Q (F0 m 1641 ls []))
    (hZ : uZ D cs a bm ao ad F s g f fd mu H locs) (hl : lv_has ls 9 [(0, .ref b), (1, .ref (a 0)), (2, .ref (bm 0)), (3, .ref ao), (4, .ref ad), (5, .int (nI (4 * n)))]) : W p l e room_1 s m args below meth c H locs cc9 ss9 Q (F0 m 426 ls []) := by
  have hx := hC.1.1; have hb := hC.1.2.1; have hml := hC.1.2.2.1; have hts := hC.1.2.2.2.2
  have hown : s.vm.findClass RL = some m.cls := hC.1.2.2.2.1
  have hcR0 : cc9 ≤ room_1.cells := Nat.le_trans (Nat.le_add_right _ _) hcR; have hsR0 : ss9 ≤ room_1.slots := Nat.le_trans (Nat.le_add_right _ _) hsR
  unfold V_case4 at hv
  refine lv_aload_n hx hb dL_law_426 rfl (lv_at hl 1 rfl) ?_
  refine lv_aload_n hx hb dL_law_427 rfl (lv_at hl 3 rfl) ?_
  refine Z_callL hC (c_L_turn l hfl D cs az a ao  g f _ hv) (vx_cwSW 2 hts gL_law_L_turn rfl rfl rfl (by decide +kernel) ⟨Nat.le_of_ble_eq_true rfl, Nat.le_of_ble_eq_true rfl⟩) rfl hl rfl (Nat.le_of_ble_eq_true rfl) dL_law_428 hZ hcR hsR (fun k1 g2 f3 H locs hv hZ => ?_)
  refine lv_istore (lv' := [(6, .int k1), (0, .ref b), (1, .ref (a 0)), (2, .ref (bm 0)), (3, .ref ao), (4, .ref ad), (5, .int (nI (4 * n)))]) hx hb dL_law_431 hl (by decide) rfl (fun ls hl => ?_)
  refine lv_aload_n hx hb dL_law_433 rfl (lv_at hl 3 rfl) ?_
  refine Z_callMi hC (c_X7_turn l D cs az bm  mu _ hv) (cwV 0 hts gL_law_X7_turn rfl rfl rfl (by decide +kernel) ⟨Nat.le_of_ble_eq_true rfl, Nat.le_of_ble_eq_true rfl⟩) rfl hl rfl (Nat.le_of_ble_eq_true rfl) dL_law_434 hZ hcR hsR (fun r4 mu5 H locs hv hZ => ?_)
  refine lv_istore (lv' := [(7, .int r4), (6, .int k1), (0, .ref b), (1, .ref (a 0)), (2, .ref (bm 0)), (3, .ref ao), (4, .ref ad), (5, .int (nI (4 * n)))]) hx hb dL_law_437 hl (by decide) rfl (fun ls hl => ?_)
  refine lv_aload_n hx hb dL_law_439 rfl (lv_at hl 4 rfl) ?_
  refine Z_callMi hC (c_X7_thrown l D cs az bm  mu5 _ hv) (cwV 0 hts gL_law_X7_thrown rfl rfl rfl (by decide +kernel) ⟨Nat.le_of_ble_eq_true rfl, Nat.le_of_ble_eq_true rfl⟩) rfl hl rfl (Nat.le_of_ble_eq_true rfl) dL_law_440 hZ hcR hsR (fun r6 mu7 H locs hv hZ => ?_)
  refine lv_iload hx hb dL_law_443 (lv_at hl 1 rfl) ?_
  refine lv_icmp_eq (tgt := 450) hx hb dL_law_445 (by decide) (fun c => ?_) (fun c => ?_)
  · have hv := hv.1 c
    refine lv_iload hx hb dL_law_450 (lv_at hl 1 rfl) ?_
    refine lv_if_ne (tgt := 467) hx hb dL_law_452 (by decide) (fun c => ?_) (fun c => ?_)
    · have hv := hv.1 c
      refine lv_goto (tgt := 1641) hx hb dL_law_467 (by decide) ?_
      exact hK g2 f3 fd mu7 hv _ _ _ hZ (lv_sub hl [2, 3, 4, 5, 6, 7] rfl)
    · have hv := hv.2 c
      refine lv_aload_n hx hb dL_law_455 rfl (lv_at hl 5 rfl) ?_
      refine lv_iconst (v := 0) hx hb dL_law_456 (by decide) ?_
      refine Z_lald hC hZ dL_law_457 ?_
      refine lv_iload hx hb dL_law_458 (lv_at hl 0 rfl) ?_
      refine lv_i2l (v := Int32.toInt64 r4) hx hb dL_law_460 rfl ?_
      refine W.lcmp hx hb dL_law_461 ?_
      refine lv_if_eq (tgt := 467) hx hb dL_law_462 (by decide) (fun c => ?_) (fun c => ?_)
      · have hv := hv.1 c
        refine lv_goto (tgt := 1641) hx hb dL_law_467 (by decide) ?_
        exact hK g2 f3 fd mu7 hv _ _ _ hZ (lv_sub hl [2, 3, 4, 5, 6, 7] rfl)
      · have hv := hv.2 c
        exact False.elim hv
  · have hv := hv.2 c
    exact False.elim hv
def V_case5 (x1 x2 x3 : Int32) (g : St) (f : Nat → Int64) (fd : Nat → UInt64) (mu : St) (K : St → (Nat → Int64) → (Nat → UInt64) → St → Prop) : Prop := V_X6_done  g (fun r1 g2 => V_X7_done  mu (fun r3 mu4 => ((r1 = r3 → K g2 f fd mu4) ∧ (¬ r1 = r3 → False))))
set_option maxHeartbeats 4000000 in
set_option maxRecDepth 100000 in
theorem law_case5 {p : Program} {l : Launch} {e : Env} {s : State} {m : MethodId} {args : Array Value} {below : List Frame} {meth : Method} {c : Code} {H : Heap} {locs : List Loc} {Q : State → Prop} {ls : Array Slot} {D : va_G} {cs az a bm : Nat → Nat} {ao ad : Nat} {F : Nat → Prop} {g mu : St} {f : Nat → Int64} {fd : Nat → UInt64} {b L n cc9 ss9 : Nat} {xs : Nat → Int32} {x1 x2 x3 : Int32} (hfl : l.flags = flags0) {K : St → (Nat → Int64) → (Nat → UInt64) → St → Prop} (hv : V_case5 x1 x2 x3 g f fd mu K)
    (hC : uC p m c cL_law 9 s args wsL_law RL D cs az F) (hX : va_X b L xs s s.heap) (hbl : b < s.heap.size) (hbF : ¬ F b) (hin1 : vp_in (nI (4 * n) + 1) L) (hin2 : vp_in (nI (4 * n) + 2) L) (hin3 : vp_in (nI (4 * n) + 3) L) (hx1 : xs (nI (4 * n) + 1).toNatClampNeg = x1) (hx2 : xs (nI (4 * n) + 2).toNatClampNeg = x2) (hx3 : xs (nI (4 * n) + 3).toNatClampNeg = x3)
    (hcR : cc9 + 4 ≤ room_1.cells) (hsR : ss9 + 24 ≤ room_1.slots)
    (hK : ∀ g' f' fd' mu', K g' f' fd' mu' → ∀ (H : Heap) (locs : List Loc) (ls : Array Slot), uZ D cs a bm ao ad F s g' f' fd' mu' H locs → lv_has ls 9 [(0, .ref b), (1, .ref (a 0)), (2, .ref (bm 0)), (3, .ref ao), (4, .ref ad), (5, .int (nI (4 * n)))] → W p l e room_1 s m args below meth c H locs (cc9 + 4) (ss9 + 24) Q (F0 m 1641 ls []))
    (hZ : uZ D cs a bm ao ad F s g f fd mu H locs) (hl : lv_has ls 9 [(0, .ref b), (1, .ref (a 0)), (2, .ref (bm 0)), (3, .ref ao), (4, .ref ad), (5, .int (nI (4 * n)))]) : W p l e room_1 s m args below meth c H locs cc9 ss9 Q (F0 m 470 ls []) := by
  have hx := hC.1.1; have hb := hC.1.2.1; have hml := hC.1.2.2.1; have hts := hC.1.2.2.2.2
  have hown : s.vm.findClass RL = some m.cls := hC.1.2.2.2.1
  have hcR0 : cc9 ≤ room_1.cells := Nat.le_trans (Nat.le_add_right _ _) hcR; have hsR0 : ss9 ≤ room_1.slots := Nat.le_trans (Nat.le_add_right _ _) hsR
  unfold V_case5 at hv
  refine lv_aload_n hx hb dL_law_470 rfl (lv_at hl 1 rfl) ?_
  refine Z_callGi hC (c_X6_done l D cs az a  g _ hv) (cwV 0 hts gL_law_X6_done rfl rfl rfl (by decide +kernel) ⟨Nat.le_of_ble_eq_true rfl, Nat.le_of_ble_eq_true rfl⟩) rfl hl rfl (Nat.le_of_ble_eq_true rfl) dL_law_471 hZ hcR0 hsR0 (fun r1 g2 H locs hv hZ => ?_)
  refine lv_aload_n hx hb dL_law_474 rfl (lv_at hl 2 rfl) ?_
  refine Z_callMi hC (c_X7_done l D cs az bm  mu _ hv) (cwV 0 hts gL_law_X7_done rfl rfl rfl (by decide +kernel) ⟨Nat.le_of_ble_eq_true rfl, Nat.le_of_ble_eq_true rfl⟩) rfl hl rfl (Nat.le_of_ble_eq_true rfl) dL_law_475 hZ hcR0 hsR0 (fun r3 mu4 H locs hv hZ => ?_)
  refine lv_icmp_eq (tgt := 1641) hx hb dL_law_478 (by decide) (fun c => ?_) (fun c => ?_)
  · have hv := hv.1 c
    refine W.widen (k := cc9 + 4) (n := ss9 + 24) (Nat.le_add_right _ _) (Nat.le_add_right _ _) ?_
    exact hK g2 f fd mu4 hv _ _ _ hZ (lv_sub hl [0, 1, 2, 3, 4, 5] rfl)
  · have hv := hv.2 c
    exact False.elim hv
def V_case6 (x1 x2 x3 : Int32) (g : St) (f : Nat → Int64) (fd : Nat → UInt64) (mu : St) (K : St → (Nat → Int64) → (Nat → UInt64) → St → Prop) : Prop := V_L_cellOf x1 g f (fun k1 z => V_X7_cellOf x1 mu (fun r4 mu5 => V_X7_thrown  mu5 (fun r6 mu7 => ((r6 = k1 → ((¬ k1 = 0 → K z.1 z.2 fd mu7) ∧ (k1 = 0 → (((lg_cmp (z.2 0) (Int32.toInt64 r4)) = 0 → K z.1 z.2 fd mu7) ∧ (¬ (lg_cmp (z.2 0) (Int32.toInt64 r4)) = 0 → False))))) ∧ (¬ r6 = k1 → False)))))
set_option maxHeartbeats 4000000 in
set_option maxRecDepth 100000 in
theorem law_case6 {p : Program} {l : Launch} {e : Env} {s : State} {m : MethodId} {args : Array Value} {below : List Frame} {meth : Method} {c : Code} {H : Heap} {locs : List Loc} {Q : State → Prop} {ls : Array Slot} {D : va_G} {cs az a bm : Nat → Nat} {ao ad : Nat} {F : Nat → Prop} {g mu : St} {f : Nat → Int64} {fd : Nat → UInt64} {b L n cc9 ss9 : Nat} {xs : Nat → Int32} {x1 x2 x3 : Int32} (hfl : l.flags = flags0) {K : St → (Nat → Int64) → (Nat → UInt64) → St → Prop} (hv : V_case6 x1 x2 x3 g f fd mu K)
    (hC : uC p m c cL_law 9 s args wsL_law RL D cs az F) (hX : va_X b L xs s s.heap) (hbl : b < s.heap.size) (hbF : ¬ F b) (hin1 : vp_in (nI (4 * n) + 1) L) (hin2 : vp_in (nI (4 * n) + 2) L) (hin3 : vp_in (nI (4 * n) + 3) L) (hx1 : xs (nI (4 * n) + 1).toNatClampNeg = x1) (hx2 : xs (nI (4 * n) + 2).toNatClampNeg = x2) (hx3 : xs (nI (4 * n) + 3).toNatClampNeg = x3)
    (hcR : cc9 + 4 ≤ room_1.cells) (hsR : ss9 + 24 ≤ room_1.slots)
    (hK : ∀ g' f' fd' mu', K g' f' fd' mu' → ∀ (H : Heap) (locs : List Loc) (ls : Array Slot), uZ D cs a bm ao ad F s g' f' fd' mu' H locs → lv_has ls 9 [(0, .ref b), (1, .ref (a 0)), (2, .ref (bm 0)), (3, .ref ao), (4, .ref ad), (5, .int (nI (4 * n)))] → W p l e room_1 s m args below meth c H locs (cc9 + 4) (ss9 + 24) Q (F0 m 1641 ls []))
    (hZ : uZ D cs a bm ao ad F s g f fd mu H locs) (hl : lv_has ls 9 [(0, .ref b), (1, .ref (a 0)), (2, .ref (bm 0)), (3, .ref ao), (4, .ref ad), (5, .int (nI (4 * n)))]) : W p l e room_1 s m args below meth c H locs cc9 ss9 Q (F0 m 483 ls []) := by
  have hx := hC.1.1; have hb := hC.1.2.1; have hml := hC.1.2.2.1; have hts := hC.1.2.2.2.2
  have hown : s.vm.findClass RL = some m.cls := hC.1.2.2.2.1
  have hcR0 : cc9 ≤ room_1.cells := Nat.le_trans (Nat.le_add_right _ _) hcR; have hsR0 : ss9 ≤ room_1.slots := Nat.le_trans (Nat.le_add_right _ _) hsR
  unfold V_case6 at hv
  refine lv_aload_n hx hb dL_law_483 rfl (lv_at hl 1 rfl) ?_
  refine lv_aload_n hx hb dL_law_484 rfl (lv_at hl 0 rfl) ?_
  refine lv_iload hx hb dL_law_485 (lv_at hl 5 rfl) ?_
  refine lv_iconst (v := 1) hx hb dL_law_487 (by decide) ?_
  refine lv_iadd hx hb dL_law_488 ?_
  refine Z_sld hC hZ hX hbl hbF hin1 hx1 dL_law_489 ?_
  refine lv_aload_n hx hb dL_law_490 rfl (lv_at hl 3 rfl) ?_
  refine Z_callL hC (c_L_cellOf l hfl D cs az a ao x1 g f _ hv) (vx_cwSW 3 hts gL_law_L_cellOf rfl rfl rfl (by decide +kernel) ⟨Nat.le_of_ble_eq_true rfl, Nat.le_of_ble_eq_true rfl⟩) rfl hl rfl (Nat.le_of_ble_eq_true rfl) dL_law_491 hZ hcR hsR (fun k1 g2 f3 H locs hv hZ => ?_)
  refine lv_istore (lv' := [(6, .int k1), (0, .ref b), (1, .ref (a 0)), (2, .ref (bm 0)), (3, .ref ao), (4, .ref ad), (5, .int (nI (4 * n)))]) hx hb dL_law_494 hl (by decide) rfl (fun ls hl => ?_)
  refine lv_aload_n hx hb dL_law_496 rfl (lv_at hl 3 rfl) ?_
  refine lv_aload_n hx hb dL_law_497 rfl (lv_at hl 1 rfl) ?_
  refine lv_iload hx hb dL_law_498 (lv_at hl 6 rfl) ?_
  refine lv_iconst (v := 1) hx hb dL_law_500 (by decide) ?_
  refine lv_iadd hx hb dL_law_501 ?_
  refine Z_sld hC hZ hX hbl hbF hin1 hx1 dL_law_502 ?_
  refine Z_callMi hC (c_X7_cellOf l D cs az bm x1 mu _ hv) (cwV 1 hts gL_law_X7_cellOf rfl rfl rfl (by decide +kernel) ⟨Nat.le_of_ble_eq_true rfl, Nat.le_of_ble_eq_true rfl⟩) rfl hl rfl (Nat.le_of_ble_eq_true rfl) dL_law_503 hZ hcR hsR (fun r4 mu5 H locs hv hZ => ?_)
  refine lv_istore (lv' := [(7, .int r4), (6, .int k1), (0, .ref b), (1, .ref (a 0)), (2, .ref (bm 0)), (3, .ref ao), (4, .ref ad), (5, .int (nI (4 * n)))]) hx hb dL_law_506 hl (by decide) rfl (fun ls hl => ?_)
  refine lv_aload_n hx hb dL_law_508 rfl (lv_at hl 4 rfl) ?_
  refine Z_callMi hC (c_X7_thrown l D cs az bm  mu5 _ hv) (cwV 0 hts gL_law_X7_thrown rfl rfl rfl (by decide +kernel) ⟨Nat.le_of_ble_eq_true rfl, Nat.le_of_ble_eq_true rfl⟩) rfl hl rfl (Nat.le_of_ble_eq_true rfl) dL_law_509 hZ hcR hsR (fun r6 mu7 H locs hv hZ => ?_)
  refine lv_iload hx hb dL_law_512 (lv_at hl 1 rfl) ?_
  refine lv_icmp_eq (tgt := 519) hx hb dL_law_514 (by decide) (fun c => ?_) (fun c => ?_)
  · have hv := hv.1 c
    refine lv_iload hx hb dL_law_519 (lv_at hl 1 rfl) ?_
    refine lv_if_ne (tgt := 536) hx hb dL_law_521 (by decide) (fun c => ?_) (fun c => ?_)
    · have hv := hv.1 c
      refine lv_goto (tgt := 1641) hx hb dL_law_536 (by decide) ?_
      exact hK g2 f3 fd mu7 hv _ _ _ hZ (lv_sub hl [2, 3, 4, 5, 6, 7] rfl)
    · have hv := hv.2 c
      refine lv_aload_n hx hb dL_law_524 rfl (lv_at hl 5 rfl) ?_
      refine lv_iconst (v := 0) hx hb dL_law_525 (by decide) ?_
      refine Z_lald hC hZ dL_law_526 ?_
      refine lv_iload hx hb dL_law_527 (lv_at hl 0 rfl) ?_
      refine lv_i2l (v := Int32.toInt64 r4) hx hb dL_law_529 rfl ?_
      refine W.lcmp hx hb dL_law_530 ?_
      refine lv_if_eq (tgt := 536) hx hb dL_law_531 (by decide) (fun c => ?_) (fun c => ?_)
      · have hv := hv.1 c
        refine lv_goto (tgt := 1641) hx hb dL_law_536 (by decide) ?_
        exact hK g2 f3 fd mu7 hv _ _ _ hZ (lv_sub hl [2, 3, 4, 5, 6, 7] rfl)
      · have hv := hv.2 c
        exact False.elim hv
  · have hv := hv.2 c
    exact False.elim hv
def V_case7 (x1 x2 x3 : Int32) (g : St) (f : Nat → Int64) (fd : Nat → UInt64) (mu : St) (K : St → (Nat → Int64) → (Nat → UInt64) → St → Prop) : Prop := V_L_unitOn x1 g f (fun k1 z => V_X7_unitOn x1 mu (fun r4 mu5 => V_X7_thrown  mu5 (fun r6 mu7 => ((r6 = k1 → ((¬ k1 = 0 → K z.1 z.2 fd mu7) ∧ (k1 = 0 → (((lg_cmp (z.2 0) (Int32.toInt64 r4)) = 0 → K z.1 z.2 fd mu7) ∧ (¬ (lg_cmp (z.2 0) (Int32.toInt64 r4)) = 0 → False))))) ∧ (¬ r6 = k1 → False)))))
set_option maxHeartbeats 4000000 in
set_option maxRecDepth 100000 in
theorem law_case7 {p : Program} {l : Launch} {e : Env} {s : State} {m : MethodId} {args : Array Value} {below : List Frame} {meth : Method} {c : Code} {H : Heap} {locs : List Loc} {Q : State → Prop} {ls : Array Slot} {D : va_G} {cs az a bm : Nat → Nat} {ao ad : Nat} {F : Nat → Prop} {g mu : St} {f : Nat → Int64} {fd : Nat → UInt64} {b L n cc9 ss9 : Nat} {xs : Nat → Int32} {x1 x2 x3 : Int32} (hfl : l.flags = flags0) {K : St → (Nat → Int64) → (Nat → UInt64) → St → Prop} (hv : V_case7 x1 x2 x3 g f fd mu K)
    (hC : uC p m c cL_law 9 s args wsL_law RL D cs az F) (hX : va_X b L xs s s.heap) (hbl : b < s.heap.size) (hbF : ¬ F b) (hin1 : vp_in (nI (4 * n) + 1) L) (hin2 : vp_in (nI (4 * n) + 2) L) (hin3 : vp_in (nI (4 * n) + 3) L) (hx1 : xs (nI (4 * n) + 1).toNatClampNeg = x1) (hx2 : xs (nI (4 * n) + 2).toNatClampNeg = x2) (hx3 : xs (nI (4 * n) + 3).toNatClampNeg = x3)
    (hcR : cc9 + 4 ≤ room_1.cells) (hsR : ss9 + 24 ≤ room_1.slots)
    (hK : ∀ g' f' fd' mu', K g' f' fd' mu' → ∀ (H : Heap) (locs : List Loc) (ls : Array Slot), uZ D cs a bm ao ad F s g' f' fd' mu' H locs → lv_has ls 9 [(0, .ref b), (1, .ref (a 0)), (2, .ref (bm 0)), (3, .ref ao), (4, .ref ad), (5, .int (nI (4 * n)))] → W p l e room_1 s m args below meth c H locs (cc9 + 4) (ss9 + 24) Q (F0 m 1641 ls []))
    (hZ : uZ D cs a bm ao ad F s g f fd mu H locs) (hl : lv_has ls 9 [(0, .ref b), (1, .ref (a 0)), (2, .ref (bm 0)), (3, .ref ao), (4, .ref ad), (5, .int (nI (4 * n)))]) : W p l e room_1 s m args below meth c H locs cc9 ss9 Q (F0 m 539 ls []) := by
  have hx := hC.1.1; have hb := hC.1.2.1; have hml := hC.1.2.2.1; have hts := hC.1.2.2.2.2
  have hown : s.vm.findClass RL = some m.cls := hC.1.2.2.2.1
  have hcR0 : cc9 ≤ room_1.cells := Nat.le_trans (Nat.le_add_right _ _) hcR; have hsR0 : ss9 ≤ room_1.slots := Nat.le_trans (Nat.le_add_right _ _) hsR
  unfold V_case7 at hv
  refine lv_aload_n hx hb dL_law_539 rfl (lv_at hl 1 rfl) ?_
  refine lv_aload_n hx hb dL_law_540 rfl (lv_at hl 0 rfl) ?_
  refine lv_iload hx hb dL_law_541 (lv_at hl 5 rfl) ?_
  refine lv_iconst (v := 1) hx hb dL_law_543 (by decide) ?_
  refine lv_iadd hx hb dL_law_544 ?_
  refine Z_sld hC hZ hX hbl hbF hin1 hx1 dL_law_545 ?_
  refine lv_aload_n hx hb dL_law_546 rfl (lv_at hl 3 rfl) ?_
  refine Z_callL hC (c_L_unitOn l hfl D cs az a ao x1 g f _ hv) (vx_cwSW 3 hts gL_law_L_unitOn rfl rfl rfl (by decide +kernel) ⟨Nat.le_of_ble_eq_true rfl, Nat.le_of_ble_eq_true rfl⟩) rfl hl rfl (Nat.le_of_ble_eq_true rfl) dL_law_547 hZ hcR hsR (fun k1 g2 f3 H locs hv hZ => ?_)
  refine lv_istore (lv' := [(6, .int k1), (0, .ref b), (1, .ref (a 0)), (2, .ref (bm 0)), (3, .ref ao), (4, .ref ad), (5, .int (nI (4 * n)))]) hx hb dL_law_550 hl (by decide) rfl (fun ls hl => ?_)
  refine lv_aload_n hx hb dL_law_552 rfl (lv_at hl 3 rfl) ?_
  refine lv_aload_n hx hb dL_law_553 rfl (lv_at hl 1 rfl) ?_
  refine lv_iload hx hb dL_law_554 (lv_at hl 6 rfl) ?_
  refine lv_iconst (v := 1) hx hb dL_law_556 (by decide) ?_
  refine lv_iadd hx hb dL_law_557 ?_
  refine Z_sld hC hZ hX hbl hbF hin1 hx1 dL_law_558 ?_
  refine Z_callMi hC (c_X7_unitOn l D cs az bm x1 mu _ hv) (cwV 1 hts gL_law_X7_unitOn rfl rfl rfl (by decide +kernel) ⟨Nat.le_of_ble_eq_true rfl, Nat.le_of_ble_eq_true rfl⟩) rfl hl rfl (Nat.le_of_ble_eq_true rfl) dL_law_559 hZ hcR hsR (fun r4 mu5 H locs hv hZ => ?_)
  refine lv_istore (lv' := [(7, .int r4), (6, .int k1), (0, .ref b), (1, .ref (a 0)), (2, .ref (bm 0)), (3, .ref ao), (4, .ref ad), (5, .int (nI (4 * n)))]) hx hb dL_law_562 hl (by decide) rfl (fun ls hl => ?_)
  refine lv_aload_n hx hb dL_law_564 rfl (lv_at hl 4 rfl) ?_
  refine Z_callMi hC (c_X7_thrown l D cs az bm  mu5 _ hv) (cwV 0 hts gL_law_X7_thrown rfl rfl rfl (by decide +kernel) ⟨Nat.le_of_ble_eq_true rfl, Nat.le_of_ble_eq_true rfl⟩) rfl hl rfl (Nat.le_of_ble_eq_true rfl) dL_law_565 hZ hcR hsR (fun r6 mu7 H locs hv hZ => ?_)
  refine lv_iload hx hb dL_law_568 (lv_at hl 1 rfl) ?_
  refine lv_icmp_eq (tgt := 575) hx hb dL_law_570 (by decide) (fun c => ?_) (fun c => ?_)
  · have hv := hv.1 c
    refine lv_iload hx hb dL_law_575 (lv_at hl 1 rfl) ?_
    refine lv_if_ne (tgt := 592) hx hb dL_law_577 (by decide) (fun c => ?_) (fun c => ?_)
    · have hv := hv.1 c
      refine lv_goto (tgt := 1641) hx hb dL_law_592 (by decide) ?_
      exact hK g2 f3 fd mu7 hv _ _ _ hZ (lv_sub hl [2, 3, 4, 5, 6, 7] rfl)
    · have hv := hv.2 c
      refine lv_aload_n hx hb dL_law_580 rfl (lv_at hl 5 rfl) ?_
      refine lv_iconst (v := 0) hx hb dL_law_581 (by decide) ?_
      refine Z_lald hC hZ dL_law_582 ?_
      refine lv_iload hx hb dL_law_583 (lv_at hl 0 rfl) ?_
      refine lv_i2l (v := Int32.toInt64 r4) hx hb dL_law_585 rfl ?_
      refine W.lcmp hx hb dL_law_586 ?_
      refine lv_if_eq (tgt := 592) hx hb dL_law_587 (by decide) (fun c => ?_) (fun c => ?_)
      · have hv := hv.1 c
        refine lv_goto (tgt := 1641) hx hb dL_law_592 (by decide) ?_
        exact hK g2 f3 fd mu7 hv _ _ _ hZ (lv_sub hl [2, 3, 4, 5, 6, 7] rfl)
      · have hv := hv.2 c
        exact False.elim hv
  · have hv := hv.2 c
    exact False.elim hv
def V_case8 (x1 x2 x3 : Int32) (g : St) (f : Nat → Int64) (fd : Nat → UInt64) (mu : St) (K : St → (Nat → Int64) → (Nat → UInt64) → St → Prop) : Prop := V_L_sees x1 x2 g f (fun k1 z => V_X7_sees x1 x2 mu (fun r4 mu5 => V_X7_thrown  mu5 (fun r6 mu7 => ((r6 = k1 → ((¬ k1 = 0 → K z.1 z.2 fd mu7) ∧ (k1 = 0 → ((r4 = 0 → (((lg_cmp (z.2 0) 0) = 0 → K z.1 z.2 fd mu7) ∧ (¬ (lg_cmp (z.2 0) 0) = 0 → False))) ∧ (¬ r4 = 0 → (((lg_cmp (z.2 0) 1) = 0 → K z.1 z.2 fd mu7) ∧ (¬ (lg_cmp (z.2 0) 1) = 0 → False))))))) ∧ (¬ r6 = k1 → False)))))
set_option maxHeartbeats 4000000 in
set_option maxRecDepth 100000 in
theorem law_case8 {p : Program} {l : Launch} {e : Env} {s : State} {m : MethodId} {args : Array Value} {below : List Frame} {meth : Method} {c : Code} {H : Heap} {locs : List Loc} {Q : State → Prop} {ls : Array Slot} {D : va_G} {cs az a bm : Nat → Nat} {ao ad : Nat} {F : Nat → Prop} {g mu : St} {f : Nat → Int64} {fd : Nat → UInt64} {b L n cc9 ss9 : Nat} {xs : Nat → Int32} {x1 x2 x3 : Int32} (hfl : l.flags = flags0) {K : St → (Nat → Int64) → (Nat → UInt64) → St → Prop} (hv : V_case8 x1 x2 x3 g f fd mu K)
    (hC : uC p m c cL_law 9 s args wsL_law RL D cs az F) (hX : va_X b L xs s s.heap) (hbl : b < s.heap.size) (hbF : ¬ F b) (hin1 : vp_in (nI (4 * n) + 1) L) (hin2 : vp_in (nI (4 * n) + 2) L) (hin3 : vp_in (nI (4 * n) + 3) L) (hx1 : xs (nI (4 * n) + 1).toNatClampNeg = x1) (hx2 : xs (nI (4 * n) + 2).toNatClampNeg = x2) (hx3 : xs (nI (4 * n) + 3).toNatClampNeg = x3)
    (hcR : cc9 + 4 ≤ room_1.cells) (hsR : ss9 + 24 ≤ room_1.slots)
    (hK : ∀ g' f' fd' mu', K g' f' fd' mu' → ∀ (H : Heap) (locs : List Loc) (ls : Array Slot), uZ D cs a bm ao ad F s g' f' fd' mu' H locs → lv_has ls 9 [(0, .ref b), (1, .ref (a 0)), (2, .ref (bm 0)), (3, .ref ao), (4, .ref ad), (5, .int (nI (4 * n)))] → W p l e room_1 s m args below meth c H locs (cc9 + 4) (ss9 + 24) Q (F0 m 1641 ls []))
    (hZ : uZ D cs a bm ao ad F s g f fd mu H locs) (hl : lv_has ls 9 [(0, .ref b), (1, .ref (a 0)), (2, .ref (bm 0)), (3, .ref ao), (4, .ref ad), (5, .int (nI (4 * n)))]) : W p l e room_1 s m args below meth c H locs cc9 ss9 Q (F0 m 595 ls []) := by
  have hx := hC.1.1; have hb := hC.1.2.1; have hml := hC.1.2.2.1; have hts := hC.1.2.2.2.2
  have hown : s.vm.findClass RL = some m.cls := hC.1.2.2.2.1
  have hcR0 : cc9 ≤ room_1.cells := Nat.le_trans (Nat.le_add_right _ _) hcR; have hsR0 : ss9 ≤ room_1.slots := Nat.le_trans (Nat.le_add_right _ _) hsR
  unfold V_case8 at hv
  refine lv_aload_n hx hb dL_law_595 rfl (lv_at hl 1 rfl) ?_
  refine lv_aload_n hx hb dL_law_596 rfl (lv_at hl 0 rfl) ?_
  refine lv_iload hx hb dL_law_597 (lv_at hl 5 rfl) ?_
  refine lv_iconst (v := 1) hx hb dL_law_599 (by decide) ?_
  refine lv_iadd hx hb dL_law_600 ?_
  refine Z_sld hC hZ hX hbl hbF hin1 hx1 dL_law_601 ?_
  refine lv_aload_n hx hb dL_law_602 rfl (lv_at hl 0 rfl) ?_
  refine lv_iload hx hb dL_law_603 (lv_at hl 5 rfl) ?_
  refine lv_iconst (v := 2) hx hb dL_law_605 (by decide) ?_
  refine lv_iadd hx hb dL_law_606 ?_
  refine Z_sld hC hZ hX hbl hbF hin2 hx2 dL_law_607 ?_
  refine lv_aload_n hx hb dL_law_608 rfl (lv_at hl 3 rfl) ?_
  refine Z_callL hC (c_L_sees l hfl D cs az a ao x1 x2 g f _ hv) (vx_cwSW 4 hts gL_law_L_sees rfl rfl rfl (by decide +kernel) ⟨Nat.le_of_ble_eq_true rfl, Nat.le_of_ble_eq_true rfl⟩) rfl hl rfl (Nat.le_of_ble_eq_true rfl) dL_law_609 hZ hcR hsR (fun k1 g2 f3 H locs hv hZ => ?_)
  refine lv_istore (lv' := [(6, .int k1), (0, .ref b), (1, .ref (a 0)), (2, .ref (bm 0)), (3, .ref ao), (4, .ref ad), (5, .int (nI (4 * n)))]) hx hb dL_law_612 hl (by decide) rfl (fun ls hl => ?_)
  refine lv_aload_n hx hb dL_law_614 rfl (lv_at hl 3 rfl) ?_
  refine lv_aload_n hx hb dL_law_615 rfl (lv_at hl 1 rfl) ?_
  refine lv_iload hx hb dL_law_616 (lv_at hl 6 rfl) ?_
  refine lv_iconst (v := 1) hx hb dL_law_618 (by decide) ?_
  refine lv_iadd hx hb dL_law_619 ?_
  refine Z_sld hC hZ hX hbl hbF hin1 hx1 dL_law_620 ?_
  refine lv_aload_n hx hb dL_law_621 rfl (lv_at hl 1 rfl) ?_
  refine lv_iload hx hb dL_law_622 (lv_at hl 6 rfl) ?_
  refine lv_iconst (v := 2) hx hb dL_law_624 (by decide) ?_
  refine lv_iadd hx hb dL_law_625 ?_
  refine Z_sld hC hZ hX hbl hbF hin2 hx2 dL_law_626 ?_
  refine Z_callMi hC (c_X7_sees l D cs az bm x1 x2 mu _ hv) (cwV 2 hts gL_law_X7_sees rfl rfl rfl (by decide +kernel) ⟨Nat.le_of_ble_eq_true rfl, Nat.le_of_ble_eq_true rfl⟩) rfl hl rfl (Nat.le_of_ble_eq_true rfl) dL_law_627 hZ hcR hsR (fun r4 mu5 H locs hv hZ => ?_)
  refine lv_istore (lv' := [(7, .int r4), (6, .int k1), (0, .ref b), (1, .ref (a 0)), (2, .ref (bm 0)), (3, .ref ao), (4, .ref ad), (5, .int (nI (4 * n)))]) hx hb dL_law_630 hl (by decide) rfl (fun ls hl => ?_)
  refine lv_aload_n hx hb dL_law_632 rfl (lv_at hl 4 rfl) ?_
  refine Z_callMi hC (c_X7_thrown l D cs az bm  mu5 _ hv) (cwV 0 hts gL_law_X7_thrown rfl rfl rfl (by decide +kernel) ⟨Nat.le_of_ble_eq_true rfl, Nat.le_of_ble_eq_true rfl⟩) rfl hl rfl (Nat.le_of_ble_eq_true rfl) dL_law_633 hZ hcR hsR (fun r6 mu7 H locs hv hZ => ?_)
  refine lv_iload hx hb dL_law_636 (lv_at hl 1 rfl) ?_
  refine lv_icmp_eq (tgt := 643) hx hb dL_law_638 (by decide) (fun c => ?_) (fun c => ?_)
  · have hv := hv.1 c
    refine lv_iload hx hb dL_law_643 (lv_at hl 1 rfl) ?_
    refine lv_if_ne (tgt := 667) hx hb dL_law_645 (by decide) (fun c => ?_) (fun c => ?_)
    · have hv := hv.1 c
      refine lv_goto (tgt := 1641) hx hb dL_law_667 (by decide) ?_
      exact hK g2 f3 fd mu7 hv _ _ _ hZ (lv_sub hl [2, 3, 4, 5, 6, 7] rfl)
    · have hv := hv.2 c
      refine lv_aload_n hx hb dL_law_648 rfl (lv_at hl 5 rfl) ?_
      refine lv_iconst (v := 0) hx hb dL_law_649 (by decide) ?_
      refine Z_lald hC hZ dL_law_650 ?_
      refine lv_iload hx hb dL_law_651 (lv_at hl 0 rfl) ?_
      refine lv_if_eq (tgt := 660) hx hb dL_law_653 (by decide) (fun c => ?_) (fun c => ?_)
      · have hv := hv.1 c
        refine lv_lconst (v := 0) hx hb dL_law_660 (by decide) ?_
        refine W.lcmp hx hb dL_law_661 ?_
        refine lv_if_eq (tgt := 667) hx hb dL_law_662 (by decide) (fun c => ?_) (fun c => ?_)
        · have hv := hv.1 c
          refine lv_goto (tgt := 1641) hx hb dL_law_667 (by decide) ?_
          exact hK g2 f3 fd mu7 hv _ _ _ hZ (lv_sub hl [2, 3, 4, 5, 6, 7] rfl)
        · have hv := hv.2 c
          exact False.elim hv
      · have hv := hv.2 c
        refine lv_lconst (v := 1) hx hb dL_law_656 (by decide) ?_
        refine lv_goto (tgt := 661) hx hb dL_law_657 (by decide) ?_
        refine W.lcmp hx hb dL_law_661 ?_
        refine lv_if_eq (tgt := 667) hx hb dL_law_662 (by decide) (fun c => ?_) (fun c => ?_)
        · have hv := hv.1 c
          refine lv_goto (tgt := 1641) hx hb dL_law_667 (by decide) ?_
          exact hK g2 f3 fd mu7 hv _ _ _ hZ (lv_sub hl [2, 3, 4, 5, 6, 7] rfl)
        · have hv := hv.2 c
          exact False.elim hv
  · have hv := hv.2 c
    exact False.elim hv
def V_case9 (x1 x2 x3 : Int32) (g : St) (f : Nat → Int64) (fd : Nat → UInt64) (mu : St) (K : St → (Nat → Int64) → (Nat → UInt64) → St → Prop) : Prop := V_L_seen x1 g f (fun k1 z => V_X7_seen x1 mu (fun r4 mu5 => V_X7_thrown  mu5 (fun r6 mu7 => ((r6 = k1 → ((¬ k1 = 0 → K z.1 z.2 fd mu7) ∧ (k1 = 0 → (((lg_cmp (z.2 0) (Int32.toInt64 r4)) = 0 → K z.1 z.2 fd mu7) ∧ (¬ (lg_cmp (z.2 0) (Int32.toInt64 r4)) = 0 → False))))) ∧ (¬ r6 = k1 → False)))))
set_option maxHeartbeats 4000000 in
set_option maxRecDepth 100000 in
theorem law_case9 {p : Program} {l : Launch} {e : Env} {s : State} {m : MethodId} {args : Array Value} {below : List Frame} {meth : Method} {c : Code} {H : Heap} {locs : List Loc} {Q : State → Prop} {ls : Array Slot} {D : va_G} {cs az a bm : Nat → Nat} {ao ad : Nat} {F : Nat → Prop} {g mu : St} {f : Nat → Int64} {fd : Nat → UInt64} {b L n cc9 ss9 : Nat} {xs : Nat → Int32} {x1 x2 x3 : Int32} (hfl : l.flags = flags0) {K : St → (Nat → Int64) → (Nat → UInt64) → St → Prop} (hv : V_case9 x1 x2 x3 g f fd mu K)
    (hC : uC p m c cL_law 9 s args wsL_law RL D cs az F) (hX : va_X b L xs s s.heap) (hbl : b < s.heap.size) (hbF : ¬ F b) (hin1 : vp_in (nI (4 * n) + 1) L) (hin2 : vp_in (nI (4 * n) + 2) L) (hin3 : vp_in (nI (4 * n) + 3) L) (hx1 : xs (nI (4 * n) + 1).toNatClampNeg = x1) (hx2 : xs (nI (4 * n) + 2).toNatClampNeg = x2) (hx3 : xs (nI (4 * n) + 3).toNatClampNeg = x3)
    (hcR : cc9 + 4 ≤ room_1.cells) (hsR : ss9 + 24 ≤ room_1.slots)
    (hK : ∀ g' f' fd' mu', K g' f' fd' mu' → ∀ (H : Heap) (locs : List Loc) (ls : Array Slot), uZ D cs a bm ao ad F s g' f' fd' mu' H locs → lv_has ls 9 [(0, .ref b), (1, .ref (a 0)), (2, .ref (bm 0)), (3, .ref ao), (4, .ref ad), (5, .int (nI (4 * n)))] → W p l e room_1 s m args below meth c H locs (cc9 + 4) (ss9 + 24) Q (F0 m 1641 ls []))
    (hZ : uZ D cs a bm ao ad F s g f fd mu H locs) (hl : lv_has ls 9 [(0, .ref b), (1, .ref (a 0)), (2, .ref (bm 0)), (3, .ref ao), (4, .ref ad), (5, .int (nI (4 * n)))]) : W p l e room_1 s m args below meth c H locs cc9 ss9 Q (F0 m 670 ls []) := by
  have hx := hC.1.1; have hb := hC.1.2.1; have hml := hC.1.2.2.1; have hts := hC.1.2.2.2.2
  have hown : s.vm.findClass RL = some m.cls := hC.1.2.2.2.1
  have hcR0 : cc9 ≤ room_1.cells := Nat.le_trans (Nat.le_add_right _ _) hcR; have hsR0 : ss9 ≤ room_1.slots := Nat.le_trans (Nat.le_add_right _ _) hsR
  unfold V_case9 at hv
  refine lv_aload_n hx hb dL_law_670 rfl (lv_at hl 1 rfl) ?_
  refine lv_aload_n hx hb dL_law_671 rfl (lv_at hl 0 rfl) ?_
  refine lv_iload hx hb dL_law_672 (lv_at hl 5 rfl) ?_
  refine lv_iconst (v := 1) hx hb dL_law_674 (by decide) ?_
  refine lv_iadd hx hb dL_law_675 ?_
  refine Z_sld hC hZ hX hbl hbF hin1 hx1 dL_law_676 ?_
  refine lv_aload_n hx hb dL_law_677 rfl (lv_at hl 3 rfl) ?_
  refine Z_callL hC (c_L_seen l hfl D cs az a ao x1 g f _ hv) (vx_cwSW 3 hts gL_law_L_seen rfl rfl rfl (by decide +kernel) ⟨Nat.le_of_ble_eq_true rfl, Nat.le_of_ble_eq_true rfl⟩) rfl hl rfl (Nat.le_of_ble_eq_true rfl) dL_law_678 hZ hcR hsR (fun k1 g2 f3 H locs hv hZ => ?_)
  refine lv_istore (lv' := [(6, .int k1), (0, .ref b), (1, .ref (a 0)), (2, .ref (bm 0)), (3, .ref ao), (4, .ref ad), (5, .int (nI (4 * n)))]) hx hb dL_law_681 hl (by decide) rfl (fun ls hl => ?_)
  refine lv_aload_n hx hb dL_law_683 rfl (lv_at hl 3 rfl) ?_
  refine lv_aload_n hx hb dL_law_684 rfl (lv_at hl 1 rfl) ?_
  refine lv_iload hx hb dL_law_685 (lv_at hl 6 rfl) ?_
  refine lv_iconst (v := 1) hx hb dL_law_687 (by decide) ?_
  refine lv_iadd hx hb dL_law_688 ?_
  refine Z_sld hC hZ hX hbl hbF hin1 hx1 dL_law_689 ?_
  refine Z_callMi hC (c_X7_seen l D cs az bm x1 mu _ hv) (cwV 1 hts gL_law_X7_seen rfl rfl rfl (by decide +kernel) ⟨Nat.le_of_ble_eq_true rfl, Nat.le_of_ble_eq_true rfl⟩) rfl hl rfl (Nat.le_of_ble_eq_true rfl) dL_law_690 hZ hcR hsR (fun r4 mu5 H locs hv hZ => ?_)
  refine lv_istore (lv' := [(7, .int r4), (6, .int k1), (0, .ref b), (1, .ref (a 0)), (2, .ref (bm 0)), (3, .ref ao), (4, .ref ad), (5, .int (nI (4 * n)))]) hx hb dL_law_693 hl (by decide) rfl (fun ls hl => ?_)
  refine lv_aload_n hx hb dL_law_695 rfl (lv_at hl 4 rfl) ?_
  refine Z_callMi hC (c_X7_thrown l D cs az bm  mu5 _ hv) (cwV 0 hts gL_law_X7_thrown rfl rfl rfl (by decide +kernel) ⟨Nat.le_of_ble_eq_true rfl, Nat.le_of_ble_eq_true rfl⟩) rfl hl rfl (Nat.le_of_ble_eq_true rfl) dL_law_696 hZ hcR hsR (fun r6 mu7 H locs hv hZ => ?_)
  refine lv_iload hx hb dL_law_699 (lv_at hl 1 rfl) ?_
  refine lv_icmp_eq (tgt := 706) hx hb dL_law_701 (by decide) (fun c => ?_) (fun c => ?_)
  · have hv := hv.1 c
    refine lv_iload hx hb dL_law_706 (lv_at hl 1 rfl) ?_
    refine lv_if_ne (tgt := 723) hx hb dL_law_708 (by decide) (fun c => ?_) (fun c => ?_)
    · have hv := hv.1 c
      refine lv_goto (tgt := 1641) hx hb dL_law_723 (by decide) ?_
      exact hK g2 f3 fd mu7 hv _ _ _ hZ (lv_sub hl [2, 3, 4, 5, 6, 7] rfl)
    · have hv := hv.2 c
      refine lv_aload_n hx hb dL_law_711 rfl (lv_at hl 5 rfl) ?_
      refine lv_iconst (v := 0) hx hb dL_law_712 (by decide) ?_
      refine Z_lald hC hZ dL_law_713 ?_
      refine lv_iload hx hb dL_law_714 (lv_at hl 0 rfl) ?_
      refine lv_i2l (v := Int32.toInt64 r4) hx hb dL_law_716 rfl ?_
      refine W.lcmp hx hb dL_law_717 ?_
      refine lv_if_eq (tgt := 723) hx hb dL_law_718 (by decide) (fun c => ?_) (fun c => ?_)
      · have hv := hv.1 c
        refine lv_goto (tgt := 1641) hx hb dL_law_723 (by decide) ?_
        exact hK g2 f3 fd mu7 hv _ _ _ hZ (lv_sub hl [2, 3, 4, 5, 6, 7] rfl)
      · have hv := hv.2 c
        exact False.elim hv
  · have hv := hv.2 c
    exact False.elim hv
def V_case10 (x1 x2 x3 : Int32) (g : St) (f : Nat → Int64) (fd : Nat → UInt64) (mu : St) (K : St → (Nat → Int64) → (Nat → UInt64) → St → Prop) : Prop := ((x3 = 0 → V_L_setTreaty x1 x2 0 g f (fun k1 z => ((x3 = 0 → V_X7_setTreaty x1 x2 0 mu (fun r4 mu5 => V_X7_thrown  mu5 (fun r6 mu7 => ((r6 = k1 → ((¬ k1 = 0 → K z.1 z.2 fd mu7) ∧ (k1 = 0 → ((r4 = 0 → (((lg_cmp (z.2 0) 0) = 0 → K z.1 z.2 fd mu7) ∧ (¬ (lg_cmp (z.2 0) 0) = 0 → False))) ∧ (¬ r4 = 0 → (((lg_cmp (z.2 0) 1) = 0 → K z.1 z.2 fd mu7) ∧ (¬ (lg_cmp (z.2 0) 1) = 0 → False))))))) ∧ (¬ r6 = k1 → False))))) ∧ (¬ x3 = 0 → V_X7_setTreaty x1 x2 1 mu (fun r8 mu9 => V_X7_thrown  mu9 (fun r10 mu11 => ((r10 = k1 → ((¬ k1 = 0 → K z.1 z.2 fd mu11) ∧ (k1 = 0 → ((r8 = 0 → (((lg_cmp (z.2 0) 0) = 0 → K z.1 z.2 fd mu11) ∧ (¬ (lg_cmp (z.2 0) 0) = 0 → False))) ∧ (¬ r8 = 0 → (((lg_cmp (z.2 0) 1) = 0 → K z.1 z.2 fd mu11) ∧ (¬ (lg_cmp (z.2 0) 1) = 0 → False))))))) ∧ (¬ r10 = k1 → False)))))))) ∧ (¬ x3 = 0 → V_L_setTreaty x1 x2 1 g f (fun k12 z => ((x3 = 0 → V_X7_setTreaty x1 x2 0 mu (fun r15 mu16 => V_X7_thrown  mu16 (fun r17 mu18 => ((r17 = k12 → ((¬ k12 = 0 → K z.1 z.2 fd mu18) ∧ (k12 = 0 → ((r15 = 0 → (((lg_cmp (z.2 0) 0) = 0 → K z.1 z.2 fd mu18) ∧ (¬ (lg_cmp (z.2 0) 0) = 0 → False))) ∧ (¬ r15 = 0 → (((lg_cmp (z.2 0) 1) = 0 → K z.1 z.2 fd mu18) ∧ (¬ (lg_cmp (z.2 0) 1) = 0 → False))))))) ∧ (¬ r17 = k12 → False))))) ∧ (¬ x3 = 0 → V_X7_setTreaty x1 x2 1 mu (fun r19 mu20 => V_X7_thrown  mu20 (fun r21 mu22 => ((r21 = k12 → ((¬ k12 = 0 → K z.1 z.2 fd mu22) ∧ (k12 = 0 → ((r19 = 0 → (((lg_cmp (z.2 0) 0) = 0 → K z.1 z.2 fd mu22) ∧ (¬ (lg_cmp (z.2 0) 0) = 0 → False))) ∧ (¬ r19 = 0 → (((lg_cmp (z.2 0) 1) = 0 → K z.1 z.2 fd mu22) ∧ (¬ (lg_cmp (z.2 0) 1) = 0 → False))))))) ∧ (¬ r21 = k12 → False)))))))))
set_option maxHeartbeats 4000000 in
set_option maxRecDepth 100000 in
theorem law_case10 {p : Program} {l : Launch} {e : Env} {s : State} {m : MethodId} {args : Array Value} {below : List Frame} {meth : Method} {c : Code} {H : Heap} {locs : List Loc} {Q : State → Prop} {ls : Array Slot} {D : va_G} {cs az a bm : Nat → Nat} {ao ad : Nat} {F : Nat → Prop} {g mu : St} {f : Nat → Int64} {fd : Nat → UInt64} {b L n cc9 ss9 : Nat} {xs : Nat → Int32} {x1 x2 x3 : Int32} (hfl : l.flags = flags0) {K : St → (Nat → Int64) → (Nat → UInt64) → St → Prop} (hv : V_case10 x1 x2 x3 g f fd mu K)
    (hC : uC p m c cL_law 9 s args wsL_law RL D cs az F) (hX : va_X b L xs s s.heap) (hbl : b < s.heap.size) (hbF : ¬ F b) (hin1 : vp_in (nI (4 * n) + 1) L) (hin2 : vp_in (nI (4 * n) + 2) L) (hin3 : vp_in (nI (4 * n) + 3) L) (hx1 : xs (nI (4 * n) + 1).toNatClampNeg = x1) (hx2 : xs (nI (4 * n) + 2).toNatClampNeg = x2) (hx3 : xs (nI (4 * n) + 3).toNatClampNeg = x3)
    (hcR : cc9 + 4 ≤ room_1.cells) (hsR : ss9 + 24 ≤ room_1.slots)
    (hK : ∀ g' f' fd' mu', K g' f' fd' mu' → ∀ (H : Heap) (locs : List Loc) (ls : Array Slot), uZ D cs a bm ao ad F s g' f' fd' mu' H locs → lv_has ls 9 [(0, .ref b), (1, .ref (a 0)), (2, .ref (bm 0)), (3, .ref ao), (4, .ref ad), (5, .int (nI (4 * n)))] → W p l e room_1 s m args below meth c H locs (cc9 + 4) (ss9 + 24) Q (F0 m 1641 ls []))
    (hZ : uZ D cs a bm ao ad F s g f fd mu H locs) (hl : lv_has ls 9 [(0, .ref b), (1, .ref (a 0)), (2, .ref (bm 0)), (3, .ref ao), (4, .ref ad), (5, .int (nI (4 * n)))]) : W p l e room_1 s m args below meth c H locs cc9 ss9 Q (F0 m 726 ls []) := by
  have hx := hC.1.1; have hb := hC.1.2.1; have hml := hC.1.2.2.1; have hts := hC.1.2.2.2.2
  have hown : s.vm.findClass RL = some m.cls := hC.1.2.2.2.1
  have hcR0 : cc9 ≤ room_1.cells := Nat.le_trans (Nat.le_add_right _ _) hcR; have hsR0 : ss9 ≤ room_1.slots := Nat.le_trans (Nat.le_add_right _ _) hsR
  unfold V_case10 at hv
  refine lv_aload_n hx hb dL_law_726 rfl (lv_at hl 1 rfl) ?_
  refine lv_aload_n hx hb dL_law_727 rfl (lv_at hl 0 rfl) ?_
  refine lv_iload hx hb dL_law_728 (lv_at hl 5 rfl) ?_
  refine lv_iconst (v := 1) hx hb dL_law_730 (by decide) ?_
  refine lv_iadd hx hb dL_law_731 ?_
  refine Z_sld hC hZ hX hbl hbF hin1 hx1 dL_law_732 ?_
  refine lv_aload_n hx hb dL_law_733 rfl (lv_at hl 0 rfl) ?_
  refine lv_iload hx hb dL_law_734 (lv_at hl 5 rfl) ?_
  refine lv_iconst (v := 2) hx hb dL_law_736 (by decide) ?_
  refine lv_iadd hx hb dL_law_737 ?_
  refine Z_sld hC hZ hX hbl hbF hin2 hx2 dL_law_738 ?_
  refine lv_aload_n hx hb dL_law_739 rfl (lv_at hl 0 rfl) ?_
  refine lv_iload hx hb dL_law_740 (lv_at hl 5 rfl) ?_
  refine lv_iconst (v := 3) hx hb dL_law_742 (by decide) ?_
  refine lv_iadd hx hb dL_law_743 ?_
  refine Z_sld hC hZ hX hbl hbF hin3 hx3 dL_law_744 ?_
  refine lv_if_eq (tgt := 752) hx hb dL_law_745 (by decide) (fun c => ?_) (fun c => ?_)
  · have hv := hv.1 c
    refine lv_iconst (v := 0) hx hb dL_law_752 (by decide) ?_
    refine lv_aload_n hx hb dL_law_753 rfl (lv_at hl 3 rfl) ?_
    refine Z_callL hC (c_L_setTreaty l hfl D cs az a ao x1 x2 0 g f _ hv) (vx_cwSW 5 hts gL_law_L_setTreaty rfl rfl rfl (by decide +kernel) ⟨Nat.le_of_ble_eq_true rfl, Nat.le_of_ble_eq_true rfl⟩) rfl hl rfl (Nat.le_of_ble_eq_true rfl) dL_law_754 hZ hcR hsR (fun k1 g2 f3 H locs hv hZ => ?_)
    refine lv_istore (lv' := [(6, .int k1), (0, .ref b), (1, .ref (a 0)), (2, .ref (bm 0)), (3, .ref ao), (4, .ref ad), (5, .int (nI (4 * n)))]) hx hb dL_law_757 hl (by decide) rfl (fun ls hl => ?_)
    refine lv_aload_n hx hb dL_law_759 rfl (lv_at hl 3 rfl) ?_
    refine lv_aload_n hx hb dL_law_760 rfl (lv_at hl 1 rfl) ?_
    refine lv_iload hx hb dL_law_761 (lv_at hl 6 rfl) ?_
    refine lv_iconst (v := 1) hx hb dL_law_763 (by decide) ?_
    refine lv_iadd hx hb dL_law_764 ?_
    refine Z_sld hC hZ hX hbl hbF hin1 hx1 dL_law_765 ?_
    refine lv_aload_n hx hb dL_law_766 rfl (lv_at hl 1 rfl) ?_
    refine lv_iload hx hb dL_law_767 (lv_at hl 6 rfl) ?_
    refine lv_iconst (v := 2) hx hb dL_law_769 (by decide) ?_
    refine lv_iadd hx hb dL_law_770 ?_
    refine Z_sld hC hZ hX hbl hbF hin2 hx2 dL_law_771 ?_
    refine lv_aload_n hx hb dL_law_772 rfl (lv_at hl 1 rfl) ?_
    refine lv_iload hx hb dL_law_773 (lv_at hl 6 rfl) ?_
    refine lv_iconst (v := 3) hx hb dL_law_775 (by decide) ?_
    refine lv_iadd hx hb dL_law_776 ?_
    refine Z_sld hC hZ hX hbl hbF hin3 hx3 dL_law_777 ?_
    refine lv_if_eq (tgt := 785) hx hb dL_law_778 (by decide) (fun c => ?_) (fun c => ?_)
    · have hv := hv.1 c
      refine lv_iconst (v := 0) hx hb dL_law_785 (by decide) ?_
      refine Z_callMi hC (c_X7_setTreaty l D cs az bm x1 x2 0 mu _ hv) (cwV 3 hts gL_law_X7_setTreaty rfl rfl rfl (by decide +kernel) ⟨Nat.le_of_ble_eq_true rfl, Nat.le_of_ble_eq_true rfl⟩) rfl hl rfl (Nat.le_of_ble_eq_true rfl) dL_law_786 hZ hcR hsR (fun r4 mu5 H locs hv hZ => ?_)
      refine lv_istore (lv' := [(7, .int r4), (6, .int k1), (0, .ref b), (1, .ref (a 0)), (2, .ref (bm 0)), (3, .ref ao), (4, .ref ad), (5, .int (nI (4 * n)))]) hx hb dL_law_789 hl (by decide) rfl (fun ls hl => ?_)
      refine lv_aload_n hx hb dL_law_791 rfl (lv_at hl 4 rfl) ?_
      refine Z_callMi hC (c_X7_thrown l D cs az bm  mu5 _ hv) (cwV 0 hts gL_law_X7_thrown rfl rfl rfl (by decide +kernel) ⟨Nat.le_of_ble_eq_true rfl, Nat.le_of_ble_eq_true rfl⟩) rfl hl rfl (Nat.le_of_ble_eq_true rfl) dL_law_792 hZ hcR hsR (fun r6 mu7 H locs hv hZ => ?_)
      refine lv_iload hx hb dL_law_795 (lv_at hl 1 rfl) ?_
      refine lv_icmp_eq (tgt := 802) hx hb dL_law_797 (by decide) (fun c => ?_) (fun c => ?_)
      · have hv := hv.1 c
        refine lv_iload hx hb dL_law_802 (lv_at hl 1 rfl) ?_
        refine lv_if_ne (tgt := 826) hx hb dL_law_804 (by decide) (fun c => ?_) (fun c => ?_)
        · have hv := hv.1 c
          refine lv_goto (tgt := 1641) hx hb dL_law_826 (by decide) ?_
          exact hK g2 f3 fd mu7 hv _ _ _ hZ (lv_sub hl [2, 3, 4, 5, 6, 7] rfl)
        · have hv := hv.2 c
          refine lv_aload_n hx hb dL_law_807 rfl (lv_at hl 5 rfl) ?_
          refine lv_iconst (v := 0) hx hb dL_law_808 (by decide) ?_
          refine Z_lald hC hZ dL_law_809 ?_
          refine lv_iload hx hb dL_law_810 (lv_at hl 0 rfl) ?_
          refine lv_if_eq (tgt := 819) hx hb dL_law_812 (by decide) (fun c => ?_) (fun c => ?_)
          · have hv := hv.1 c
            refine lv_lconst (v := 0) hx hb dL_law_819 (by decide) ?_
            refine W.lcmp hx hb dL_law_820 ?_
            refine lv_if_eq (tgt := 826) hx hb dL_law_821 (by decide) (fun c => ?_) (fun c => ?_)
            · have hv := hv.1 c
              refine lv_goto (tgt := 1641) hx hb dL_law_826 (by decide) ?_
              exact hK g2 f3 fd mu7 hv _ _ _ hZ (lv_sub hl [2, 3, 4, 5, 6, 7] rfl)
            · have hv := hv.2 c
              exact False.elim hv
          · have hv := hv.2 c
            refine lv_lconst (v := 1) hx hb dL_law_815 (by decide) ?_
            refine lv_goto (tgt := 820) hx hb dL_law_816 (by decide) ?_
            refine W.lcmp hx hb dL_law_820 ?_
            refine lv_if_eq (tgt := 826) hx hb dL_law_821 (by decide) (fun c => ?_) (fun c => ?_)
            · have hv := hv.1 c
              refine lv_goto (tgt := 1641) hx hb dL_law_826 (by decide) ?_
              exact hK g2 f3 fd mu7 hv _ _ _ hZ (lv_sub hl [2, 3, 4, 5, 6, 7] rfl)
            · have hv := hv.2 c
              exact False.elim hv
      · have hv := hv.2 c
        exact False.elim hv
    · have hv := hv.2 c
      refine lv_iconst (v := 1) hx hb dL_law_781 (by decide) ?_
      refine lv_goto (tgt := 786) hx hb dL_law_782 (by decide) ?_
      refine Z_callMi hC (c_X7_setTreaty l D cs az bm x1 x2 1 mu _ hv) (cwV 3 hts gL_law_X7_setTreaty rfl rfl rfl (by decide +kernel) ⟨Nat.le_of_ble_eq_true rfl, Nat.le_of_ble_eq_true rfl⟩) rfl hl rfl (Nat.le_of_ble_eq_true rfl) dL_law_786 hZ hcR hsR (fun r8 mu9 H locs hv hZ => ?_)
      refine lv_istore (lv' := [(7, .int r8), (6, .int k1), (0, .ref b), (1, .ref (a 0)), (2, .ref (bm 0)), (3, .ref ao), (4, .ref ad), (5, .int (nI (4 * n)))]) hx hb dL_law_789 hl (by decide) rfl (fun ls hl => ?_)
      refine lv_aload_n hx hb dL_law_791 rfl (lv_at hl 4 rfl) ?_
      refine Z_callMi hC (c_X7_thrown l D cs az bm  mu9 _ hv) (cwV 0 hts gL_law_X7_thrown rfl rfl rfl (by decide +kernel) ⟨Nat.le_of_ble_eq_true rfl, Nat.le_of_ble_eq_true rfl⟩) rfl hl rfl (Nat.le_of_ble_eq_true rfl) dL_law_792 hZ hcR hsR (fun r10 mu11 H locs hv hZ => ?_)
      refine lv_iload hx hb dL_law_795 (lv_at hl 1 rfl) ?_
      refine lv_icmp_eq (tgt := 802) hx hb dL_law_797 (by decide) (fun c => ?_) (fun c => ?_)
      · have hv := hv.1 c
        refine lv_iload hx hb dL_law_802 (lv_at hl 1 rfl) ?_
        refine lv_if_ne (tgt := 826) hx hb dL_law_804 (by decide) (fun c => ?_) (fun c => ?_)
        · have hv := hv.1 c
          refine lv_goto (tgt := 1641) hx hb dL_law_826 (by decide) ?_
          exact hK g2 f3 fd mu11 hv _ _ _ hZ (lv_sub hl [2, 3, 4, 5, 6, 7] rfl)
        · have hv := hv.2 c
          refine lv_aload_n hx hb dL_law_807 rfl (lv_at hl 5 rfl) ?_
          refine lv_iconst (v := 0) hx hb dL_law_808 (by decide) ?_
          refine Z_lald hC hZ dL_law_809 ?_
          refine lv_iload hx hb dL_law_810 (lv_at hl 0 rfl) ?_
          refine lv_if_eq (tgt := 819) hx hb dL_law_812 (by decide) (fun c => ?_) (fun c => ?_)
          · have hv := hv.1 c
            refine lv_lconst (v := 0) hx hb dL_law_819 (by decide) ?_
            refine W.lcmp hx hb dL_law_820 ?_
            refine lv_if_eq (tgt := 826) hx hb dL_law_821 (by decide) (fun c => ?_) (fun c => ?_)
            · have hv := hv.1 c
              refine lv_goto (tgt := 1641) hx hb dL_law_826 (by decide) ?_
              exact hK g2 f3 fd mu11 hv _ _ _ hZ (lv_sub hl [2, 3, 4, 5, 6, 7] rfl)
            · have hv := hv.2 c
              exact False.elim hv
          · have hv := hv.2 c
            refine lv_lconst (v := 1) hx hb dL_law_815 (by decide) ?_
            refine lv_goto (tgt := 820) hx hb dL_law_816 (by decide) ?_
            refine W.lcmp hx hb dL_law_820 ?_
            refine lv_if_eq (tgt := 826) hx hb dL_law_821 (by decide) (fun c => ?_) (fun c => ?_)
            · have hv := hv.1 c
              refine lv_goto (tgt := 1641) hx hb dL_law_826 (by decide) ?_
              exact hK g2 f3 fd mu11 hv _ _ _ hZ (lv_sub hl [2, 3, 4, 5, 6, 7] rfl)
            · have hv := hv.2 c
              exact False.elim hv
      · have hv := hv.2 c
        exact False.elim hv
  · have hv := hv.2 c
    refine lv_iconst (v := 1) hx hb dL_law_748 (by decide) ?_
    refine lv_goto (tgt := 753) hx hb dL_law_749 (by decide) ?_
    refine lv_aload_n hx hb dL_law_753 rfl (lv_at hl 3 rfl) ?_
    refine Z_callL hC (c_L_setTreaty l hfl D cs az a ao x1 x2 1 g f _ hv) (vx_cwSW 5 hts gL_law_L_setTreaty rfl rfl rfl (by decide +kernel) ⟨Nat.le_of_ble_eq_true rfl, Nat.le_of_ble_eq_true rfl⟩) rfl hl rfl (Nat.le_of_ble_eq_true rfl) dL_law_754 hZ hcR hsR (fun k12 g13 f14 H locs hv hZ => ?_)
    refine lv_istore (lv' := [(6, .int k12), (0, .ref b), (1, .ref (a 0)), (2, .ref (bm 0)), (3, .ref ao), (4, .ref ad), (5, .int (nI (4 * n)))]) hx hb dL_law_757 hl (by decide) rfl (fun ls hl => ?_)
    refine lv_aload_n hx hb dL_law_759 rfl (lv_at hl 3 rfl) ?_
    refine lv_aload_n hx hb dL_law_760 rfl (lv_at hl 1 rfl) ?_
    refine lv_iload hx hb dL_law_761 (lv_at hl 6 rfl) ?_
    refine lv_iconst (v := 1) hx hb dL_law_763 (by decide) ?_
    refine lv_iadd hx hb dL_law_764 ?_
    refine Z_sld hC hZ hX hbl hbF hin1 hx1 dL_law_765 ?_
    refine lv_aload_n hx hb dL_law_766 rfl (lv_at hl 1 rfl) ?_
    refine lv_iload hx hb dL_law_767 (lv_at hl 6 rfl) ?_
    refine lv_iconst (v := 2) hx hb dL_law_769 (by decide) ?_
    refine lv_iadd hx hb dL_law_770 ?_
    refine Z_sld hC hZ hX hbl hbF hin2 hx2 dL_law_771 ?_
    refine lv_aload_n hx hb dL_law_772 rfl (lv_at hl 1 rfl) ?_
    refine lv_iload hx hb dL_law_773 (lv_at hl 6 rfl) ?_
    refine lv_iconst (v := 3) hx hb dL_law_775 (by decide) ?_
    refine lv_iadd hx hb dL_law_776 ?_
    refine Z_sld hC hZ hX hbl hbF hin3 hx3 dL_law_777 ?_
    refine lv_if_eq (tgt := 785) hx hb dL_law_778 (by decide) (fun c => ?_) (fun c => ?_)
    · have hv := hv.1 c
      refine lv_iconst (v := 0) hx hb dL_law_785 (by decide) ?_
      refine Z_callMi hC (c_X7_setTreaty l D cs az bm x1 x2 0 mu _ hv) (cwV 3 hts gL_law_X7_setTreaty rfl rfl rfl (by decide +kernel) ⟨Nat.le_of_ble_eq_true rfl, Nat.le_of_ble_eq_true rfl⟩) rfl hl rfl (Nat.le_of_ble_eq_true rfl) dL_law_786 hZ hcR hsR (fun r15 mu16 H locs hv hZ => ?_)
      refine lv_istore (lv' := [(7, .int r15), (6, .int k12), (0, .ref b), (1, .ref (a 0)), (2, .ref (bm 0)), (3, .ref ao), (4, .ref ad), (5, .int (nI (4 * n)))]) hx hb dL_law_789 hl (by decide) rfl (fun ls hl => ?_)
      refine lv_aload_n hx hb dL_law_791 rfl (lv_at hl 4 rfl) ?_
      refine Z_callMi hC (c_X7_thrown l D cs az bm  mu16 _ hv) (cwV 0 hts gL_law_X7_thrown rfl rfl rfl (by decide +kernel) ⟨Nat.le_of_ble_eq_true rfl, Nat.le_of_ble_eq_true rfl⟩) rfl hl rfl (Nat.le_of_ble_eq_true rfl) dL_law_792 hZ hcR hsR (fun r17 mu18 H locs hv hZ => ?_)
      refine lv_iload hx hb dL_law_795 (lv_at hl 1 rfl) ?_
      refine lv_icmp_eq (tgt := 802) hx hb dL_law_797 (by decide) (fun c => ?_) (fun c => ?_)
      · have hv := hv.1 c
        refine lv_iload hx hb dL_law_802 (lv_at hl 1 rfl) ?_
        refine lv_if_ne (tgt := 826) hx hb dL_law_804 (by decide) (fun c => ?_) (fun c => ?_)
        · have hv := hv.1 c
          refine lv_goto (tgt := 1641) hx hb dL_law_826 (by decide) ?_
          exact hK g13 f14 fd mu18 hv _ _ _ hZ (lv_sub hl [2, 3, 4, 5, 6, 7] rfl)
        · have hv := hv.2 c
          refine lv_aload_n hx hb dL_law_807 rfl (lv_at hl 5 rfl) ?_
          refine lv_iconst (v := 0) hx hb dL_law_808 (by decide) ?_
          refine Z_lald hC hZ dL_law_809 ?_
          refine lv_iload hx hb dL_law_810 (lv_at hl 0 rfl) ?_
          refine lv_if_eq (tgt := 819) hx hb dL_law_812 (by decide) (fun c => ?_) (fun c => ?_)
          · have hv := hv.1 c
            refine lv_lconst (v := 0) hx hb dL_law_819 (by decide) ?_
            refine W.lcmp hx hb dL_law_820 ?_
            refine lv_if_eq (tgt := 826) hx hb dL_law_821 (by decide) (fun c => ?_) (fun c => ?_)
            · have hv := hv.1 c
              refine lv_goto (tgt := 1641) hx hb dL_law_826 (by decide) ?_
              exact hK g13 f14 fd mu18 hv _ _ _ hZ (lv_sub hl [2, 3, 4, 5, 6, 7] rfl)
            · have hv := hv.2 c
              exact False.elim hv
          · have hv := hv.2 c
            refine lv_lconst (v := 1) hx hb dL_law_815 (by decide) ?_
            refine lv_goto (tgt := 820) hx hb dL_law_816 (by decide) ?_
            refine W.lcmp hx hb dL_law_820 ?_
            refine lv_if_eq (tgt := 826) hx hb dL_law_821 (by decide) (fun c => ?_) (fun c => ?_)
            · have hv := hv.1 c
              refine lv_goto (tgt := 1641) hx hb dL_law_826 (by decide) ?_
              exact hK g13 f14 fd mu18 hv _ _ _ hZ (lv_sub hl [2, 3, 4, 5, 6, 7] rfl)
            · have hv := hv.2 c
              exact False.elim hv
      · have hv := hv.2 c
        exact False.elim hv
    · have hv := hv.2 c
      refine lv_iconst (v := 1) hx hb dL_law_781 (by decide) ?_
      refine lv_goto (tgt := 786) hx hb dL_law_782 (by decide) ?_
      refine Z_callMi hC (c_X7_setTreaty l D cs az bm x1 x2 1 mu _ hv) (cwV 3 hts gL_law_X7_setTreaty rfl rfl rfl (by decide +kernel) ⟨Nat.le_of_ble_eq_true rfl, Nat.le_of_ble_eq_true rfl⟩) rfl hl rfl (Nat.le_of_ble_eq_true rfl) dL_law_786 hZ hcR hsR (fun r19 mu20 H locs hv hZ => ?_)
      refine lv_istore (lv' := [(7, .int r19), (6, .int k12), (0, .ref b), (1, .ref (a 0)), (2, .ref (bm 0)), (3, .ref ao), (4, .ref ad), (5, .int (nI (4 * n)))]) hx hb dL_law_789 hl (by decide) rfl (fun ls hl => ?_)
      refine lv_aload_n hx hb dL_law_791 rfl (lv_at hl 4 rfl) ?_
      refine Z_callMi hC (c_X7_thrown l D cs az bm  mu20 _ hv) (cwV 0 hts gL_law_X7_thrown rfl rfl rfl (by decide +kernel) ⟨Nat.le_of_ble_eq_true rfl, Nat.le_of_ble_eq_true rfl⟩) rfl hl rfl (Nat.le_of_ble_eq_true rfl) dL_law_792 hZ hcR hsR (fun r21 mu22 H locs hv hZ => ?_)
      refine lv_iload hx hb dL_law_795 (lv_at hl 1 rfl) ?_
      refine lv_icmp_eq (tgt := 802) hx hb dL_law_797 (by decide) (fun c => ?_) (fun c => ?_)
      · have hv := hv.1 c
        refine lv_iload hx hb dL_law_802 (lv_at hl 1 rfl) ?_
        refine lv_if_ne (tgt := 826) hx hb dL_law_804 (by decide) (fun c => ?_) (fun c => ?_)
        · have hv := hv.1 c
          refine lv_goto (tgt := 1641) hx hb dL_law_826 (by decide) ?_
          exact hK g13 f14 fd mu22 hv _ _ _ hZ (lv_sub hl [2, 3, 4, 5, 6, 7] rfl)
        · have hv := hv.2 c
          refine lv_aload_n hx hb dL_law_807 rfl (lv_at hl 5 rfl) ?_
          refine lv_iconst (v := 0) hx hb dL_law_808 (by decide) ?_
          refine Z_lald hC hZ dL_law_809 ?_
          refine lv_iload hx hb dL_law_810 (lv_at hl 0 rfl) ?_
          refine lv_if_eq (tgt := 819) hx hb dL_law_812 (by decide) (fun c => ?_) (fun c => ?_)
          · have hv := hv.1 c
            refine lv_lconst (v := 0) hx hb dL_law_819 (by decide) ?_
            refine W.lcmp hx hb dL_law_820 ?_
            refine lv_if_eq (tgt := 826) hx hb dL_law_821 (by decide) (fun c => ?_) (fun c => ?_)
            · have hv := hv.1 c
              refine lv_goto (tgt := 1641) hx hb dL_law_826 (by decide) ?_
              exact hK g13 f14 fd mu22 hv _ _ _ hZ (lv_sub hl [2, 3, 4, 5, 6, 7] rfl)
            · have hv := hv.2 c
              exact False.elim hv
          · have hv := hv.2 c
            refine lv_lconst (v := 1) hx hb dL_law_815 (by decide) ?_
            refine lv_goto (tgt := 820) hx hb dL_law_816 (by decide) ?_
            refine W.lcmp hx hb dL_law_820 ?_
            refine lv_if_eq (tgt := 826) hx hb dL_law_821 (by decide) (fun c => ?_) (fun c => ?_)
            · have hv := hv.1 c
              refine lv_goto (tgt := 1641) hx hb dL_law_826 (by decide) ?_
              exact hK g13 f14 fd mu22 hv _ _ _ hZ (lv_sub hl [2, 3, 4, 5, 6, 7] rfl)
            · have hv := hv.2 c
              exact False.elim hv
      · have hv := hv.2 c
        exact False.elim hv
def V_case11 (x1 x2 x3 : Int32) (g : St) (f : Nat → Int64) (fd : Nat → UInt64) (mu : St) (K : St → (Nat → Int64) → (Nat → UInt64) → St → Prop) : Prop := V_L_sightings x1 g f (fun k1 z => V_X7_sightings x1 mu (fun r4 mu5 => V_X7_thrown  mu5 (fun r6 mu7 => ((r6 = k1 → ((¬ k1 = 0 → K z.1 z.2 fd mu7) ∧ (k1 = 0 → (((lg_cmp (z.2 0) (Int32.toInt64 r4)) = 0 → K z.1 z.2 fd mu7) ∧ (¬ (lg_cmp (z.2 0) (Int32.toInt64 r4)) = 0 → False))))) ∧ (¬ r6 = k1 → False)))))
set_option maxHeartbeats 4000000 in
set_option maxRecDepth 100000 in
theorem law_case11 {p : Program} {l : Launch} {e : Env} {s : State} {m : MethodId} {args : Array Value} {below : List Frame} {meth : Method} {c : Code} {H : Heap} {locs : List Loc} {Q : State → Prop} {ls : Array Slot} {D : va_G} {cs az a bm : Nat → Nat} {ao ad : Nat} {F : Nat → Prop} {g mu : St} {f : Nat → Int64} {fd : Nat → UInt64} {b L n cc9 ss9 : Nat} {xs : Nat → Int32} {x1 x2 x3 : Int32} (hfl : l.flags = flags0) {K : St → (Nat → Int64) → (Nat → UInt64) → St → Prop} (hv : V_case11 x1 x2 x3 g f fd mu K)
    (hC : uC p m c cL_law 9 s args wsL_law RL D cs az F) (hX : va_X b L xs s s.heap) (hbl : b < s.heap.size) (hbF : ¬ F b) (hin1 : vp_in (nI (4 * n) + 1) L) (hin2 : vp_in (nI (4 * n) + 2) L) (hin3 : vp_in (nI (4 * n) + 3) L) (hx1 : xs (nI (4 * n) + 1).toNatClampNeg = x1) (hx2 : xs (nI (4 * n) + 2).toNatClampNeg = x2) (hx3 : xs (nI (4 * n) + 3).toNatClampNeg = x3)
    (hcR : cc9 + 4 ≤ room_1.cells) (hsR : ss9 + 24 ≤ room_1.slots)
    (hK : ∀ g' f' fd' mu', K g' f' fd' mu' → ∀ (H : Heap) (locs : List Loc) (ls : Array Slot), uZ D cs a bm ao ad F s g' f' fd' mu' H locs → lv_has ls 9 [(0, .ref b), (1, .ref (a 0)), (2, .ref (bm 0)), (3, .ref ao), (4, .ref ad), (5, .int (nI (4 * n)))] → W p l e room_1 s m args below meth c H locs (cc9 + 4) (ss9 + 24) Q (F0 m 1641 ls []))
    (hZ : uZ D cs a bm ao ad F s g f fd mu H locs) (hl : lv_has ls 9 [(0, .ref b), (1, .ref (a 0)), (2, .ref (bm 0)), (3, .ref ao), (4, .ref ad), (5, .int (nI (4 * n)))]) : W p l e room_1 s m args below meth c H locs cc9 ss9 Q (F0 m 829 ls []) := by
  have hx := hC.1.1; have hb := hC.1.2.1; have hml := hC.1.2.2.1; have hts := hC.1.2.2.2.2
  have hown : s.vm.findClass RL = some m.cls := hC.1.2.2.2.1
  have hcR0 : cc9 ≤ room_1.cells := Nat.le_trans (Nat.le_add_right _ _) hcR; have hsR0 : ss9 ≤ room_1.slots := Nat.le_trans (Nat.le_add_right _ _) hsR
  unfold V_case11 at hv
  refine lv_aload_n hx hb dL_law_829 rfl (lv_at hl 1 rfl) ?_
  refine lv_aload_n hx hb dL_law_830 rfl (lv_at hl 0 rfl) ?_
  refine lv_iload hx hb dL_law_831 (lv_at hl 5 rfl) ?_
  refine lv_iconst (v := 1) hx hb dL_law_833 (by decide) ?_
  refine lv_iadd hx hb dL_law_834 ?_
  refine Z_sld hC hZ hX hbl hbF hin1 hx1 dL_law_835 ?_
  refine lv_aload_n hx hb dL_law_836 rfl (lv_at hl 3 rfl) ?_
  refine Z_callL hC (c_L_sightings l hfl D cs az a ao x1 g f _ hv) (vx_cwSW 3 hts gL_law_L_sightings rfl rfl rfl (by decide +kernel) ⟨Nat.le_of_ble_eq_true rfl, Nat.le_of_ble_eq_true rfl⟩) rfl hl rfl (Nat.le_of_ble_eq_true rfl) dL_law_837 hZ hcR hsR (fun k1 g2 f3 H locs hv hZ => ?_)
  refine lv_istore (lv' := [(6, .int k1), (0, .ref b), (1, .ref (a 0)), (2, .ref (bm 0)), (3, .ref ao), (4, .ref ad), (5, .int (nI (4 * n)))]) hx hb dL_law_840 hl (by decide) rfl (fun ls hl => ?_)
  refine lv_aload_n hx hb dL_law_842 rfl (lv_at hl 3 rfl) ?_
  refine lv_aload_n hx hb dL_law_843 rfl (lv_at hl 1 rfl) ?_
  refine lv_iload hx hb dL_law_844 (lv_at hl 6 rfl) ?_
  refine lv_iconst (v := 1) hx hb dL_law_846 (by decide) ?_
  refine lv_iadd hx hb dL_law_847 ?_
  refine Z_sld hC hZ hX hbl hbF hin1 hx1 dL_law_848 ?_
  refine Z_callMi hC (c_X7_sightings l D cs az bm x1 mu _ hv) (cwV 1 hts gL_law_X7_sightings rfl rfl rfl (by decide +kernel) ⟨Nat.le_of_ble_eq_true rfl, Nat.le_of_ble_eq_true rfl⟩) rfl hl rfl (Nat.le_of_ble_eq_true rfl) dL_law_849 hZ hcR hsR (fun r4 mu5 H locs hv hZ => ?_)
  refine lv_istore (lv' := [(7, .int r4), (6, .int k1), (0, .ref b), (1, .ref (a 0)), (2, .ref (bm 0)), (3, .ref ao), (4, .ref ad), (5, .int (nI (4 * n)))]) hx hb dL_law_852 hl (by decide) rfl (fun ls hl => ?_)
  refine lv_aload_n hx hb dL_law_854 rfl (lv_at hl 4 rfl) ?_
  refine Z_callMi hC (c_X7_thrown l D cs az bm  mu5 _ hv) (cwV 0 hts gL_law_X7_thrown rfl rfl rfl (by decide +kernel) ⟨Nat.le_of_ble_eq_true rfl, Nat.le_of_ble_eq_true rfl⟩) rfl hl rfl (Nat.le_of_ble_eq_true rfl) dL_law_855 hZ hcR hsR (fun r6 mu7 H locs hv hZ => ?_)
  refine lv_iload hx hb dL_law_858 (lv_at hl 1 rfl) ?_
  refine lv_icmp_eq (tgt := 865) hx hb dL_law_860 (by decide) (fun c => ?_) (fun c => ?_)
  · have hv := hv.1 c
    refine lv_iload hx hb dL_law_865 (lv_at hl 1 rfl) ?_
    refine lv_if_ne (tgt := 882) hx hb dL_law_867 (by decide) (fun c => ?_) (fun c => ?_)
    · have hv := hv.1 c
      refine lv_goto (tgt := 1641) hx hb dL_law_882 (by decide) ?_
      exact hK g2 f3 fd mu7 hv _ _ _ hZ (lv_sub hl [2, 3, 4, 5, 6, 7] rfl)
    · have hv := hv.2 c
      refine lv_aload_n hx hb dL_law_870 rfl (lv_at hl 5 rfl) ?_
      refine lv_iconst (v := 0) hx hb dL_law_871 (by decide) ?_
      refine Z_lald hC hZ dL_law_872 ?_
      refine lv_iload hx hb dL_law_873 (lv_at hl 0 rfl) ?_
      refine lv_i2l (v := Int32.toInt64 r4) hx hb dL_law_875 rfl ?_
      refine W.lcmp hx hb dL_law_876 ?_
      refine lv_if_eq (tgt := 882) hx hb dL_law_877 (by decide) (fun c => ?_) (fun c => ?_)
      · have hv := hv.1 c
        refine lv_goto (tgt := 1641) hx hb dL_law_882 (by decide) ?_
        exact hK g2 f3 fd mu7 hv _ _ _ hZ (lv_sub hl [2, 3, 4, 5, 6, 7] rfl)
      · have hv := hv.2 c
        exact False.elim hv
  · have hv := hv.2 c
    exact False.elim hv
def V_case12 (x1 x2 x3 : Int32) (g : St) (f : Nat → Int64) (fd : Nat → UInt64) (mu : St) (K : St → (Nat → Int64) → (Nat → UInt64) → St → Prop) : Prop := V_L_sighting x1 x2 ((Int32.toUInt32 x3 % 65536).toInt32) g f (fun k1 z => V_X7_sighting x1 x2 ((Int32.toUInt32 x3 % 65536).toInt32) mu (fun r4 mu5 => V_X7_thrown  mu5 (fun r6 mu7 => ((r6 = k1 → ((¬ k1 = 0 → K z.1 z.2 fd mu7) ∧ (k1 = 0 → (((lg_cmp (z.2 0) (Int32.toInt64 r4)) = 0 → K z.1 z.2 fd mu7) ∧ (¬ (lg_cmp (z.2 0) (Int32.toInt64 r4)) = 0 → False))))) ∧ (¬ r6 = k1 → False)))))
set_option maxHeartbeats 4000000 in
set_option maxRecDepth 100000 in
theorem law_case12 {p : Program} {l : Launch} {e : Env} {s : State} {m : MethodId} {args : Array Value} {below : List Frame} {meth : Method} {c : Code} {H : Heap} {locs : List Loc} {Q : State → Prop} {ls : Array Slot} {D : va_G} {cs az a bm : Nat → Nat} {ao ad : Nat} {F : Nat → Prop} {g mu : St} {f : Nat → Int64} {fd : Nat → UInt64} {b L n cc9 ss9 : Nat} {xs : Nat → Int32} {x1 x2 x3 : Int32} (hfl : l.flags = flags0) {K : St → (Nat → Int64) → (Nat → UInt64) → St → Prop} (hv : V_case12 x1 x2 x3 g f fd mu K)
    (hC : uC p m c cL_law 9 s args wsL_law RL D cs az F) (hX : va_X b L xs s s.heap) (hbl : b < s.heap.size) (hbF : ¬ F b) (hin1 : vp_in (nI (4 * n) + 1) L) (hin2 : vp_in (nI (4 * n) + 2) L) (hin3 : vp_in (nI (4 * n) + 3) L) (hx1 : xs (nI (4 * n) + 1).toNatClampNeg = x1) (hx2 : xs (nI (4 * n) + 2).toNatClampNeg = x2) (hx3 : xs (nI (4 * n) + 3).toNatClampNeg = x3)
    (hcR : cc9 + 4 ≤ room_1.cells) (hsR : ss9 + 24 ≤ room_1.slots)
    (hK : ∀ g' f' fd' mu', K g' f' fd' mu' → ∀ (H : Heap) (locs : List Loc) (ls : Array Slot), uZ D cs a bm ao ad F s g' f' fd' mu' H locs → lv_has ls 9 [(0, .ref b), (1, .ref (a 0)), (2, .ref (bm 0)), (3, .ref ao), (4, .ref ad), (5, .int (nI (4 * n)))] → W p l e room_1 s m args below meth c H locs (cc9 + 4) (ss9 + 24) Q (F0 m 1641 ls []))
    (hZ : uZ D cs a bm ao ad F s g f fd mu H locs) (hl : lv_has ls 9 [(0, .ref b), (1, .ref (a 0)), (2, .ref (bm 0)), (3, .ref ao), (4, .ref ad), (5, .int (nI (4 * n)))]) : W p l e room_1 s m args below meth c H locs cc9 ss9 Q (F0 m 885 ls []) := by
  have hx := hC.1.1; have hb := hC.1.2.1; have hml := hC.1.2.2.1; have hts := hC.1.2.2.2.2
  have hown : s.vm.findClass RL = some m.cls := hC.1.2.2.2.1
  have hcR0 : cc9 ≤ room_1.cells := Nat.le_trans (Nat.le_add_right _ _) hcR; have hsR0 : ss9 ≤ room_1.slots := Nat.le_trans (Nat.le_add_right _ _) hsR
  unfold V_case12 at hv
  refine lv_aload_n hx hb dL_law_885 rfl (lv_at hl 1 rfl) ?_
  refine lv_aload_n hx hb dL_law_886 rfl (lv_at hl 0 rfl) ?_
  refine lv_iload hx hb dL_law_887 (lv_at hl 5 rfl) ?_
  refine lv_iconst (v := 1) hx hb dL_law_889 (by decide) ?_
  refine lv_iadd hx hb dL_law_890 ?_
  refine Z_sld hC hZ hX hbl hbF hin1 hx1 dL_law_891 ?_
  refine lv_aload_n hx hb dL_law_892 rfl (lv_at hl 0 rfl) ?_
  refine lv_iload hx hb dL_law_893 (lv_at hl 5 rfl) ?_
  refine lv_iconst (v := 2) hx hb dL_law_895 (by decide) ?_
  refine lv_iadd hx hb dL_law_896 ?_
  refine Z_sld hC hZ hX hbl hbF hin2 hx2 dL_law_897 ?_
  refine lv_aload_n hx hb dL_law_898 rfl (lv_at hl 0 rfl) ?_
  refine lv_iload hx hb dL_law_899 (lv_at hl 5 rfl) ?_
  refine lv_iconst (v := 3) hx hb dL_law_901 (by decide) ?_
  refine lv_iadd hx hb dL_law_902 ?_
  refine Z_sld hC hZ hX hbl hbF hin3 hx3 dL_law_903 ?_
  refine lv_i2c (v := (Int32.toUInt32 x3 % 65536).toInt32) hx hb dL_law_904 rfl ?_
  refine lv_aload_n hx hb dL_law_905 rfl (lv_at hl 3 rfl) ?_
  refine Z_callL hC (c_L_sighting l hfl D cs az a ao x1 x2 ((Int32.toUInt32 x3 % 65536).toInt32) g f _ hv) (vx_cwSW 5 hts gL_law_L_sighting rfl rfl rfl (by decide +kernel) ⟨Nat.le_of_ble_eq_true rfl, Nat.le_of_ble_eq_true rfl⟩) rfl hl rfl (Nat.le_of_ble_eq_true rfl) dL_law_906 hZ hcR hsR (fun k1 g2 f3 H locs hv hZ => ?_)
  refine lv_istore (lv' := [(6, .int k1), (0, .ref b), (1, .ref (a 0)), (2, .ref (bm 0)), (3, .ref ao), (4, .ref ad), (5, .int (nI (4 * n)))]) hx hb dL_law_909 hl (by decide) rfl (fun ls hl => ?_)
  refine lv_aload_n hx hb dL_law_911 rfl (lv_at hl 3 rfl) ?_
  refine lv_aload_n hx hb dL_law_912 rfl (lv_at hl 1 rfl) ?_
  refine lv_iload hx hb dL_law_913 (lv_at hl 6 rfl) ?_
  refine lv_iconst (v := 1) hx hb dL_law_915 (by decide) ?_
  refine lv_iadd hx hb dL_law_916 ?_
  refine Z_sld hC hZ hX hbl hbF hin1 hx1 dL_law_917 ?_
  refine lv_aload_n hx hb dL_law_918 rfl (lv_at hl 1 rfl) ?_
  refine lv_iload hx hb dL_law_919 (lv_at hl 6 rfl) ?_
  refine lv_iconst (v := 2) hx hb dL_law_921 (by decide) ?_
  refine lv_iadd hx hb dL_law_922 ?_
  refine Z_sld hC hZ hX hbl hbF hin2 hx2 dL_law_923 ?_
  refine lv_aload_n hx hb dL_law_924 rfl (lv_at hl 1 rfl) ?_
  refine lv_iload hx hb dL_law_925 (lv_at hl 6 rfl) ?_
  refine lv_iconst (v := 3) hx hb dL_law_927 (by decide) ?_
  refine lv_iadd hx hb dL_law_928 ?_
  refine Z_sld hC hZ hX hbl hbF hin3 hx3 dL_law_929 ?_
  refine lv_i2c (v := (Int32.toUInt32 x3 % 65536).toInt32) hx hb dL_law_930 rfl ?_
  refine Z_callMi hC (c_X7_sighting l D cs az bm x1 x2 ((Int32.toUInt32 x3 % 65536).toInt32) mu _ hv) (cwV 3 hts gL_law_X7_sighting rfl rfl rfl (by decide +kernel) ⟨Nat.le_of_ble_eq_true rfl, Nat.le_of_ble_eq_true rfl⟩) rfl hl rfl (Nat.le_of_ble_eq_true rfl) dL_law_931 hZ hcR hsR (fun r4 mu5 H locs hv hZ => ?_)
  refine lv_istore (lv' := [(7, .int r4), (6, .int k1), (0, .ref b), (1, .ref (a 0)), (2, .ref (bm 0)), (3, .ref ao), (4, .ref ad), (5, .int (nI (4 * n)))]) hx hb dL_law_934 hl (by decide) rfl (fun ls hl => ?_)
  refine lv_aload_n hx hb dL_law_936 rfl (lv_at hl 4 rfl) ?_
  refine Z_callMi hC (c_X7_thrown l D cs az bm  mu5 _ hv) (cwV 0 hts gL_law_X7_thrown rfl rfl rfl (by decide +kernel) ⟨Nat.le_of_ble_eq_true rfl, Nat.le_of_ble_eq_true rfl⟩) rfl hl rfl (Nat.le_of_ble_eq_true rfl) dL_law_937 hZ hcR hsR (fun r6 mu7 H locs hv hZ => ?_)
  refine lv_iload hx hb dL_law_940 (lv_at hl 1 rfl) ?_
  refine lv_icmp_eq (tgt := 947) hx hb dL_law_942 (by decide) (fun c => ?_) (fun c => ?_)
  · have hv := hv.1 c
    refine lv_iload hx hb dL_law_947 (lv_at hl 1 rfl) ?_
    refine lv_if_ne (tgt := 964) hx hb dL_law_949 (by decide) (fun c => ?_) (fun c => ?_)
    · have hv := hv.1 c
      refine lv_goto (tgt := 1641) hx hb dL_law_964 (by decide) ?_
      exact hK g2 f3 fd mu7 hv _ _ _ hZ (lv_sub hl [2, 3, 4, 5, 6, 7] rfl)
    · have hv := hv.2 c
      refine lv_aload_n hx hb dL_law_952 rfl (lv_at hl 5 rfl) ?_
      refine lv_iconst (v := 0) hx hb dL_law_953 (by decide) ?_
      refine Z_lald hC hZ dL_law_954 ?_
      refine lv_iload hx hb dL_law_955 (lv_at hl 0 rfl) ?_
      refine lv_i2l (v := Int32.toInt64 r4) hx hb dL_law_957 rfl ?_
      refine W.lcmp hx hb dL_law_958 ?_
      refine lv_if_eq (tgt := 964) hx hb dL_law_959 (by decide) (fun c => ?_) (fun c => ?_)
      · have hv := hv.1 c
        refine lv_goto (tgt := 1641) hx hb dL_law_964 (by decide) ?_
        exact hK g2 f3 fd mu7 hv _ _ _ hZ (lv_sub hl [2, 3, 4, 5, 6, 7] rfl)
      · have hv := hv.2 c
        exact False.elim hv
  · have hv := hv.2 c
    exact False.elim hv
def V_case13 (x1 x2 x3 : Int32) (g : St) (f : Nat → Int64) (fd : Nat → UInt64) (mu : St) (K : St → (Nat → Int64) → (Nat → UInt64) → St → Prop) : Prop := V_L_age x1 x2 g f (fun k1 z => V_X7_age x1 x2 mu (fun r4 mu5 => V_X7_thrown  mu5 (fun r6 mu7 => ((r6 = k1 → ((¬ k1 = 0 → K z.1 z.2 fd mu7) ∧ (k1 = 0 → (((lg_cmp (z.2 0) (Int32.toInt64 r4)) = 0 → K z.1 z.2 fd mu7) ∧ (¬ (lg_cmp (z.2 0) (Int32.toInt64 r4)) = 0 → False))))) ∧ (¬ r6 = k1 → False)))))
set_option maxHeartbeats 4000000 in
set_option maxRecDepth 100000 in
theorem law_case13 {p : Program} {l : Launch} {e : Env} {s : State} {m : MethodId} {args : Array Value} {below : List Frame} {meth : Method} {c : Code} {H : Heap} {locs : List Loc} {Q : State → Prop} {ls : Array Slot} {D : va_G} {cs az a bm : Nat → Nat} {ao ad : Nat} {F : Nat → Prop} {g mu : St} {f : Nat → Int64} {fd : Nat → UInt64} {b L n cc9 ss9 : Nat} {xs : Nat → Int32} {x1 x2 x3 : Int32} (hfl : l.flags = flags0) {K : St → (Nat → Int64) → (Nat → UInt64) → St → Prop} (hv : V_case13 x1 x2 x3 g f fd mu K)
    (hC : uC p m c cL_law 9 s args wsL_law RL D cs az F) (hX : va_X b L xs s s.heap) (hbl : b < s.heap.size) (hbF : ¬ F b) (hin1 : vp_in (nI (4 * n) + 1) L) (hin2 : vp_in (nI (4 * n) + 2) L) (hin3 : vp_in (nI (4 * n) + 3) L) (hx1 : xs (nI (4 * n) + 1).toNatClampNeg = x1) (hx2 : xs (nI (4 * n) + 2).toNatClampNeg = x2) (hx3 : xs (nI (4 * n) + 3).toNatClampNeg = x3)
    (hcR : cc9 + 4 ≤ room_1.cells) (hsR : ss9 + 24 ≤ room_1.slots)
    (hK : ∀ g' f' fd' mu', K g' f' fd' mu' → ∀ (H : Heap) (locs : List Loc) (ls : Array Slot), uZ D cs a bm ao ad F s g' f' fd' mu' H locs → lv_has ls 9 [(0, .ref b), (1, .ref (a 0)), (2, .ref (bm 0)), (3, .ref ao), (4, .ref ad), (5, .int (nI (4 * n)))] → W p l e room_1 s m args below meth c H locs (cc9 + 4) (ss9 + 24) Q (F0 m 1641 ls []))
    (hZ : uZ D cs a bm ao ad F s g f fd mu H locs) (hl : lv_has ls 9 [(0, .ref b), (1, .ref (a 0)), (2, .ref (bm 0)), (3, .ref ao), (4, .ref ad), (5, .int (nI (4 * n)))]) : W p l e room_1 s m args below meth c H locs cc9 ss9 Q (F0 m 967 ls []) := by
  have hx := hC.1.1; have hb := hC.1.2.1; have hml := hC.1.2.2.1; have hts := hC.1.2.2.2.2
  have hown : s.vm.findClass RL = some m.cls := hC.1.2.2.2.1
  have hcR0 : cc9 ≤ room_1.cells := Nat.le_trans (Nat.le_add_right _ _) hcR; have hsR0 : ss9 ≤ room_1.slots := Nat.le_trans (Nat.le_add_right _ _) hsR
  unfold V_case13 at hv
  refine lv_aload_n hx hb dL_law_967 rfl (lv_at hl 1 rfl) ?_
  refine lv_aload_n hx hb dL_law_968 rfl (lv_at hl 0 rfl) ?_
  refine lv_iload hx hb dL_law_969 (lv_at hl 5 rfl) ?_
  refine lv_iconst (v := 1) hx hb dL_law_971 (by decide) ?_
  refine lv_iadd hx hb dL_law_972 ?_
  refine Z_sld hC hZ hX hbl hbF hin1 hx1 dL_law_973 ?_
  refine lv_aload_n hx hb dL_law_974 rfl (lv_at hl 0 rfl) ?_
  refine lv_iload hx hb dL_law_975 (lv_at hl 5 rfl) ?_
  refine lv_iconst (v := 2) hx hb dL_law_977 (by decide) ?_
  refine lv_iadd hx hb dL_law_978 ?_
  refine Z_sld hC hZ hX hbl hbF hin2 hx2 dL_law_979 ?_
  refine lv_aload_n hx hb dL_law_980 rfl (lv_at hl 3 rfl) ?_
  refine Z_callL hC (c_L_age l hfl D cs az a ao x1 x2 g f _ hv) (vx_cwSW 4 hts gL_law_L_age rfl rfl rfl (by decide +kernel) ⟨Nat.le_of_ble_eq_true rfl, Nat.le_of_ble_eq_true rfl⟩) rfl hl rfl (Nat.le_of_ble_eq_true rfl) dL_law_981 hZ hcR hsR (fun k1 g2 f3 H locs hv hZ => ?_)
  refine lv_istore (lv' := [(6, .int k1), (0, .ref b), (1, .ref (a 0)), (2, .ref (bm 0)), (3, .ref ao), (4, .ref ad), (5, .int (nI (4 * n)))]) hx hb dL_law_984 hl (by decide) rfl (fun ls hl => ?_)
  refine lv_aload_n hx hb dL_law_986 rfl (lv_at hl 3 rfl) ?_
  refine lv_aload_n hx hb dL_law_987 rfl (lv_at hl 1 rfl) ?_
  refine lv_iload hx hb dL_law_988 (lv_at hl 6 rfl) ?_
  refine lv_iconst (v := 1) hx hb dL_law_990 (by decide) ?_
  refine lv_iadd hx hb dL_law_991 ?_
  refine Z_sld hC hZ hX hbl hbF hin1 hx1 dL_law_992 ?_
  refine lv_aload_n hx hb dL_law_993 rfl (lv_at hl 1 rfl) ?_
  refine lv_iload hx hb dL_law_994 (lv_at hl 6 rfl) ?_
  refine lv_iconst (v := 2) hx hb dL_law_996 (by decide) ?_
  refine lv_iadd hx hb dL_law_997 ?_
  refine Z_sld hC hZ hX hbl hbF hin2 hx2 dL_law_998 ?_
  refine Z_callMi hC (c_X7_age l D cs az bm x1 x2 mu _ hv) (cwV 2 hts gL_law_X7_age rfl rfl rfl (by decide +kernel) ⟨Nat.le_of_ble_eq_true rfl, Nat.le_of_ble_eq_true rfl⟩) rfl hl rfl (Nat.le_of_ble_eq_true rfl) dL_law_999 hZ hcR hsR (fun r4 mu5 H locs hv hZ => ?_)
  refine lv_istore (lv' := [(7, .int r4), (6, .int k1), (0, .ref b), (1, .ref (a 0)), (2, .ref (bm 0)), (3, .ref ao), (4, .ref ad), (5, .int (nI (4 * n)))]) hx hb dL_law_1002 hl (by decide) rfl (fun ls hl => ?_)
  refine lv_aload_n hx hb dL_law_1004 rfl (lv_at hl 4 rfl) ?_
  refine Z_callMi hC (c_X7_thrown l D cs az bm  mu5 _ hv) (cwV 0 hts gL_law_X7_thrown rfl rfl rfl (by decide +kernel) ⟨Nat.le_of_ble_eq_true rfl, Nat.le_of_ble_eq_true rfl⟩) rfl hl rfl (Nat.le_of_ble_eq_true rfl) dL_law_1005 hZ hcR hsR (fun r6 mu7 H locs hv hZ => ?_)
  refine lv_iload hx hb dL_law_1008 (lv_at hl 1 rfl) ?_
  refine lv_icmp_eq (tgt := 1015) hx hb dL_law_1010 (by decide) (fun c => ?_) (fun c => ?_)
  · have hv := hv.1 c
    refine lv_iload hx hb dL_law_1015 (lv_at hl 1 rfl) ?_
    refine lv_if_ne (tgt := 1032) hx hb dL_law_1017 (by decide) (fun c => ?_) (fun c => ?_)
    · have hv := hv.1 c
      refine lv_goto (tgt := 1641) hx hb dL_law_1032 (by decide) ?_
      exact hK g2 f3 fd mu7 hv _ _ _ hZ (lv_sub hl [2, 3, 4, 5, 6, 7] rfl)
    · have hv := hv.2 c
      refine lv_aload_n hx hb dL_law_1020 rfl (lv_at hl 5 rfl) ?_
      refine lv_iconst (v := 0) hx hb dL_law_1021 (by decide) ?_
      refine Z_lald hC hZ dL_law_1022 ?_
      refine lv_iload hx hb dL_law_1023 (lv_at hl 0 rfl) ?_
      refine lv_i2l (v := Int32.toInt64 r4) hx hb dL_law_1025 rfl ?_
      refine W.lcmp hx hb dL_law_1026 ?_
      refine lv_if_eq (tgt := 1032) hx hb dL_law_1027 (by decide) (fun c => ?_) (fun c => ?_)
      · have hv := hv.1 c
        refine lv_goto (tgt := 1641) hx hb dL_law_1032 (by decide) ?_
        exact hK g2 f3 fd mu7 hv _ _ _ hZ (lv_sub hl [2, 3, 4, 5, 6, 7] rfl)
      · have hv := hv.2 c
        exact False.elim hv
  · have hv := hv.2 c
    exact False.elim hv
def V_case14 (x1 x2 x3 : Int32) (g : St) (f : Nat → Int64) (fd : Nat → UInt64) (mu : St) (K : St → (Nat → Int64) → (Nat → UInt64) → St → Prop) : Prop := V_L_lastSeen x1 x2 g f (fun k1 z => V_X7_lastSeen x1 x2 mu (fun r4 mu5 => V_X7_thrown  mu5 (fun r6 mu7 => ((r6 = k1 → ((¬ k1 = 0 → K z.1 z.2 fd mu7) ∧ (k1 = 0 → (((lg_cmp (z.2 0) (Int32.toInt64 r4)) = 0 → K z.1 z.2 fd mu7) ∧ (¬ (lg_cmp (z.2 0) (Int32.toInt64 r4)) = 0 → False))))) ∧ (¬ r6 = k1 → False)))))
set_option maxHeartbeats 4000000 in
set_option maxRecDepth 100000 in
theorem law_case14 {p : Program} {l : Launch} {e : Env} {s : State} {m : MethodId} {args : Array Value} {below : List Frame} {meth : Method} {c : Code} {H : Heap} {locs : List Loc} {Q : State → Prop} {ls : Array Slot} {D : va_G} {cs az a bm : Nat → Nat} {ao ad : Nat} {F : Nat → Prop} {g mu : St} {f : Nat → Int64} {fd : Nat → UInt64} {b L n cc9 ss9 : Nat} {xs : Nat → Int32} {x1 x2 x3 : Int32} (hfl : l.flags = flags0) {K : St → (Nat → Int64) → (Nat → UInt64) → St → Prop} (hv : V_case14 x1 x2 x3 g f fd mu K)
    (hC : uC p m c cL_law 9 s args wsL_law RL D cs az F) (hX : va_X b L xs s s.heap) (hbl : b < s.heap.size) (hbF : ¬ F b) (hin1 : vp_in (nI (4 * n) + 1) L) (hin2 : vp_in (nI (4 * n) + 2) L) (hin3 : vp_in (nI (4 * n) + 3) L) (hx1 : xs (nI (4 * n) + 1).toNatClampNeg = x1) (hx2 : xs (nI (4 * n) + 2).toNatClampNeg = x2) (hx3 : xs (nI (4 * n) + 3).toNatClampNeg = x3)
    (hcR : cc9 + 4 ≤ room_1.cells) (hsR : ss9 + 24 ≤ room_1.slots)
    (hK : ∀ g' f' fd' mu', K g' f' fd' mu' → ∀ (H : Heap) (locs : List Loc) (ls : Array Slot), uZ D cs a bm ao ad F s g' f' fd' mu' H locs → lv_has ls 9 [(0, .ref b), (1, .ref (a 0)), (2, .ref (bm 0)), (3, .ref ao), (4, .ref ad), (5, .int (nI (4 * n)))] → W p l e room_1 s m args below meth c H locs (cc9 + 4) (ss9 + 24) Q (F0 m 1641 ls []))
    (hZ : uZ D cs a bm ao ad F s g f fd mu H locs) (hl : lv_has ls 9 [(0, .ref b), (1, .ref (a 0)), (2, .ref (bm 0)), (3, .ref ao), (4, .ref ad), (5, .int (nI (4 * n)))]) : W p l e room_1 s m args below meth c H locs cc9 ss9 Q (F0 m 1035 ls []) := by
  have hx := hC.1.1; have hb := hC.1.2.1; have hml := hC.1.2.2.1; have hts := hC.1.2.2.2.2
  have hown : s.vm.findClass RL = some m.cls := hC.1.2.2.2.1
  have hcR0 : cc9 ≤ room_1.cells := Nat.le_trans (Nat.le_add_right _ _) hcR; have hsR0 : ss9 ≤ room_1.slots := Nat.le_trans (Nat.le_add_right _ _) hsR
  unfold V_case14 at hv
  refine lv_aload_n hx hb dL_law_1035 rfl (lv_at hl 1 rfl) ?_
  refine lv_aload_n hx hb dL_law_1036 rfl (lv_at hl 0 rfl) ?_
  refine lv_iload hx hb dL_law_1037 (lv_at hl 5 rfl) ?_
  refine lv_iconst (v := 1) hx hb dL_law_1039 (by decide) ?_
  refine lv_iadd hx hb dL_law_1040 ?_
  refine Z_sld hC hZ hX hbl hbF hin1 hx1 dL_law_1041 ?_
  refine lv_aload_n hx hb dL_law_1042 rfl (lv_at hl 0 rfl) ?_
  refine lv_iload hx hb dL_law_1043 (lv_at hl 5 rfl) ?_
  refine lv_iconst (v := 2) hx hb dL_law_1045 (by decide) ?_
  refine lv_iadd hx hb dL_law_1046 ?_
  refine Z_sld hC hZ hX hbl hbF hin2 hx2 dL_law_1047 ?_
  refine lv_aload_n hx hb dL_law_1048 rfl (lv_at hl 3 rfl) ?_
  refine Z_callL hC (c_L_lastSeen l hfl D cs az a ao x1 x2 g f _ hv) (vx_cwSW 4 hts gL_law_L_lastSeen rfl rfl rfl (by decide +kernel) ⟨Nat.le_of_ble_eq_true rfl, Nat.le_of_ble_eq_true rfl⟩) rfl hl rfl (Nat.le_of_ble_eq_true rfl) dL_law_1049 hZ hcR hsR (fun k1 g2 f3 H locs hv hZ => ?_)
  refine lv_istore (lv' := [(6, .int k1), (0, .ref b), (1, .ref (a 0)), (2, .ref (bm 0)), (3, .ref ao), (4, .ref ad), (5, .int (nI (4 * n)))]) hx hb dL_law_1052 hl (by decide) rfl (fun ls hl => ?_)
  refine lv_aload_n hx hb dL_law_1054 rfl (lv_at hl 3 rfl) ?_
  refine lv_aload_n hx hb dL_law_1055 rfl (lv_at hl 1 rfl) ?_
  refine lv_iload hx hb dL_law_1056 (lv_at hl 6 rfl) ?_
  refine lv_iconst (v := 1) hx hb dL_law_1058 (by decide) ?_
  refine lv_iadd hx hb dL_law_1059 ?_
  refine Z_sld hC hZ hX hbl hbF hin1 hx1 dL_law_1060 ?_
  refine lv_aload_n hx hb dL_law_1061 rfl (lv_at hl 1 rfl) ?_
  refine lv_iload hx hb dL_law_1062 (lv_at hl 6 rfl) ?_
  refine lv_iconst (v := 2) hx hb dL_law_1064 (by decide) ?_
  refine lv_iadd hx hb dL_law_1065 ?_
  refine Z_sld hC hZ hX hbl hbF hin2 hx2 dL_law_1066 ?_
  refine Z_callMi hC (c_X7_lastSeen l D cs az bm x1 x2 mu _ hv) (cwV 2 hts gL_law_X7_lastSeen rfl rfl rfl (by decide +kernel) ⟨Nat.le_of_ble_eq_true rfl, Nat.le_of_ble_eq_true rfl⟩) rfl hl rfl (Nat.le_of_ble_eq_true rfl) dL_law_1067 hZ hcR hsR (fun r4 mu5 H locs hv hZ => ?_)
  refine lv_istore (lv' := [(7, .int r4), (6, .int k1), (0, .ref b), (1, .ref (a 0)), (2, .ref (bm 0)), (3, .ref ao), (4, .ref ad), (5, .int (nI (4 * n)))]) hx hb dL_law_1070 hl (by decide) rfl (fun ls hl => ?_)
  refine lv_aload_n hx hb dL_law_1072 rfl (lv_at hl 4 rfl) ?_
  refine Z_callMi hC (c_X7_thrown l D cs az bm  mu5 _ hv) (cwV 0 hts gL_law_X7_thrown rfl rfl rfl (by decide +kernel) ⟨Nat.le_of_ble_eq_true rfl, Nat.le_of_ble_eq_true rfl⟩) rfl hl rfl (Nat.le_of_ble_eq_true rfl) dL_law_1073 hZ hcR hsR (fun r6 mu7 H locs hv hZ => ?_)
  refine lv_iload hx hb dL_law_1076 (lv_at hl 1 rfl) ?_
  refine lv_icmp_eq (tgt := 1083) hx hb dL_law_1078 (by decide) (fun c => ?_) (fun c => ?_)
  · have hv := hv.1 c
    refine lv_iload hx hb dL_law_1083 (lv_at hl 1 rfl) ?_
    refine lv_if_ne (tgt := 1100) hx hb dL_law_1085 (by decide) (fun c => ?_) (fun c => ?_)
    · have hv := hv.1 c
      refine lv_goto (tgt := 1641) hx hb dL_law_1100 (by decide) ?_
      exact hK g2 f3 fd mu7 hv _ _ _ hZ (lv_sub hl [2, 3, 4, 5, 6, 7] rfl)
    · have hv := hv.2 c
      refine lv_aload_n hx hb dL_law_1088 rfl (lv_at hl 5 rfl) ?_
      refine lv_iconst (v := 0) hx hb dL_law_1089 (by decide) ?_
      refine Z_lald hC hZ dL_law_1090 ?_
      refine lv_iload hx hb dL_law_1091 (lv_at hl 0 rfl) ?_
      refine lv_i2l (v := Int32.toInt64 r4) hx hb dL_law_1093 rfl ?_
      refine W.lcmp hx hb dL_law_1094 ?_
      refine lv_if_eq (tgt := 1100) hx hb dL_law_1095 (by decide) (fun c => ?_) (fun c => ?_)
      · have hv := hv.1 c
        refine lv_goto (tgt := 1641) hx hb dL_law_1100 (by decide) ?_
        exact hK g2 f3 fd mu7 hv _ _ _ hZ (lv_sub hl [2, 3, 4, 5, 6, 7] rfl)
      · have hv := hv.2 c
        exact False.elim hv
  · have hv := hv.2 c
    exact False.elim hv
def V_case15 (x1 x2 x3 : Int32) (g : St) (f : Nat → Int64) (fd : Nat → UInt64) (mu : St) (K : St → (Nat → Int64) → (Nat → UInt64) → St → Prop) : Prop := V_X6_save  g (fun r1 g2 => V_X7_save  mu (fun r3 mu4 => ((r1 = r3 → K g2 f fd mu4) ∧ (¬ r1 = r3 → False))))
set_option maxHeartbeats 4000000 in
set_option maxRecDepth 100000 in
theorem law_case15 {p : Program} {l : Launch} {e : Env} {s : State} {m : MethodId} {args : Array Value} {below : List Frame} {meth : Method} {c : Code} {H : Heap} {locs : List Loc} {Q : State → Prop} {ls : Array Slot} {D : va_G} {cs az a bm : Nat → Nat} {ao ad : Nat} {F : Nat → Prop} {g mu : St} {f : Nat → Int64} {fd : Nat → UInt64} {b L n cc9 ss9 : Nat} {xs : Nat → Int32} {x1 x2 x3 : Int32} (hfl : l.flags = flags0) {K : St → (Nat → Int64) → (Nat → UInt64) → St → Prop} (hv : V_case15 x1 x2 x3 g f fd mu K)
    (hC : uC p m c cL_law 9 s args wsL_law RL D cs az F) (hX : va_X b L xs s s.heap) (hbl : b < s.heap.size) (hbF : ¬ F b) (hin1 : vp_in (nI (4 * n) + 1) L) (hin2 : vp_in (nI (4 * n) + 2) L) (hin3 : vp_in (nI (4 * n) + 3) L) (hx1 : xs (nI (4 * n) + 1).toNatClampNeg = x1) (hx2 : xs (nI (4 * n) + 2).toNatClampNeg = x2) (hx3 : xs (nI (4 * n) + 3).toNatClampNeg = x3)
    (hcR : cc9 + 4 ≤ room_1.cells) (hsR : ss9 + 24 ≤ room_1.slots)
    (hK : ∀ g' f' fd' mu', K g' f' fd' mu' → ∀ (H : Heap) (locs : List Loc) (ls : Array Slot), uZ D cs a bm ao ad F s g' f' fd' mu' H locs → lv_has ls 9 [(0, .ref b), (1, .ref (a 0)), (2, .ref (bm 0)), (3, .ref ao), (4, .ref ad), (5, .int (nI (4 * n)))] → W p l e room_1 s m args below meth c H locs (cc9 + 4) (ss9 + 24) Q (F0 m 1641 ls []))
    (hZ : uZ D cs a bm ao ad F s g f fd mu H locs) (hl : lv_has ls 9 [(0, .ref b), (1, .ref (a 0)), (2, .ref (bm 0)), (3, .ref ao), (4, .ref ad), (5, .int (nI (4 * n)))]) : W p l e room_1 s m args below meth c H locs cc9 ss9 Q (F0 m 1103 ls []) := by
  have hx := hC.1.1; have hb := hC.1.2.1; have hml := hC.1.2.2.1; have hts := hC.1.2.2.2.2
  have hown : s.vm.findClass RL = some m.cls := hC.1.2.2.2.1
  have hcR0 : cc9 ≤ room_1.cells := Nat.le_trans (Nat.le_add_right _ _) hcR; have hsR0 : ss9 ≤ room_1.slots := Nat.le_trans (Nat.le_add_right _ _) hsR
  unfold V_case15 at hv
  refine lv_aload_n hx hb dL_law_1103 rfl (lv_at hl 1 rfl) ?_
  refine Z_callGi hC (c_X6_save l D cs az a  g _ hv) (cwV 0 hts gL_law_X6_save rfl rfl rfl (by decide +kernel) ⟨Nat.le_of_ble_eq_true rfl, Nat.le_of_ble_eq_true rfl⟩) rfl hl rfl (Nat.le_of_ble_eq_true rfl) dL_law_1104 hZ hcR0 hsR0 (fun r1 g2 H locs hv hZ => ?_)
  refine lv_aload_n hx hb dL_law_1107 rfl (lv_at hl 2 rfl) ?_
  refine Z_callMi hC (c_X7_save l D cs az bm  mu _ hv) (cwV 0 hts gL_law_X7_save rfl rfl rfl (by decide +kernel) ⟨Nat.le_of_ble_eq_true rfl, Nat.le_of_ble_eq_true rfl⟩) rfl hl rfl (Nat.le_of_ble_eq_true rfl) dL_law_1108 hZ hcR0 hsR0 (fun r3 mu4 H locs hv hZ => ?_)
  refine lv_icmp_eq (tgt := 1641) hx hb dL_law_1111 (by decide) (fun c => ?_) (fun c => ?_)
  · have hv := hv.1 c
    refine W.widen (k := cc9 + 4) (n := ss9 + 24) (Nat.le_add_right _ _) (Nat.le_add_right _ _) ?_
    exact hK g2 f fd mu4 hv _ _ _ hZ (lv_sub hl [0, 1, 2, 3, 4, 5] rfl)
  · have hv := hv.2 c
    exact False.elim hv
def V_case16 (x1 x2 x3 : Int32) (g : St) (f : Nat → Int64) (fd : Nat → UInt64) (mu : St) (K : St → (Nat → Int64) → (Nat → UInt64) → St → Prop) : Prop := V_L_blocks x1 g f (fun k1 z => V_X7_blocks x1 mu (fun r4 mu5 => V_X7_thrown  mu5 (fun r6 mu7 => ((r6 = k1 → ((¬ k1 = 0 → K z.1 z.2 fd mu7) ∧ (k1 = 0 → (((lg_cmp (z.2 0) (Int32.toInt64 r4)) = 0 → K z.1 z.2 fd mu7) ∧ (¬ (lg_cmp (z.2 0) (Int32.toInt64 r4)) = 0 → False))))) ∧ (¬ r6 = k1 → False)))))
set_option maxHeartbeats 4000000 in
set_option maxRecDepth 100000 in
theorem law_case16 {p : Program} {l : Launch} {e : Env} {s : State} {m : MethodId} {args : Array Value} {below : List Frame} {meth : Method} {c : Code} {H : Heap} {locs : List Loc} {Q : State → Prop} {ls : Array Slot} {D : va_G} {cs az a bm : Nat → Nat} {ao ad : Nat} {F : Nat → Prop} {g mu : St} {f : Nat → Int64} {fd : Nat → UInt64} {b L n cc9 ss9 : Nat} {xs : Nat → Int32} {x1 x2 x3 : Int32} (hfl : l.flags = flags0) {K : St → (Nat → Int64) → (Nat → UInt64) → St → Prop} (hv : V_case16 x1 x2 x3 g f fd mu K)
    (hC : uC p m c cL_law 9 s args wsL_law RL D cs az F) (hX : va_X b L xs s s.heap) (hbl : b < s.heap.size) (hbF : ¬ F b) (hin1 : vp_in (nI (4 * n) + 1) L) (hin2 : vp_in (nI (4 * n) + 2) L) (hin3 : vp_in (nI (4 * n) + 3) L) (hx1 : xs (nI (4 * n) + 1).toNatClampNeg = x1) (hx2 : xs (nI (4 * n) + 2).toNatClampNeg = x2) (hx3 : xs (nI (4 * n) + 3).toNatClampNeg = x3)
    (hcR : cc9 + 4 ≤ room_1.cells) (hsR : ss9 + 24 ≤ room_1.slots)
    (hK : ∀ g' f' fd' mu', K g' f' fd' mu' → ∀ (H : Heap) (locs : List Loc) (ls : Array Slot), uZ D cs a bm ao ad F s g' f' fd' mu' H locs → lv_has ls 9 [(0, .ref b), (1, .ref (a 0)), (2, .ref (bm 0)), (3, .ref ao), (4, .ref ad), (5, .int (nI (4 * n)))] → W p l e room_1 s m args below meth c H locs (cc9 + 4) (ss9 + 24) Q (F0 m 1641 ls []))
    (hZ : uZ D cs a bm ao ad F s g f fd mu H locs) (hl : lv_has ls 9 [(0, .ref b), (1, .ref (a 0)), (2, .ref (bm 0)), (3, .ref ao), (4, .ref ad), (5, .int (nI (4 * n)))]) : W p l e room_1 s m args below meth c H locs cc9 ss9 Q (F0 m 1116 ls []) := by
  have hx := hC.1.1; have hb := hC.1.2.1; have hml := hC.1.2.2.1; have hts := hC.1.2.2.2.2
  have hown : s.vm.findClass RL = some m.cls := hC.1.2.2.2.1
  have hcR0 : cc9 ≤ room_1.cells := Nat.le_trans (Nat.le_add_right _ _) hcR; have hsR0 : ss9 ≤ room_1.slots := Nat.le_trans (Nat.le_add_right _ _) hsR
  unfold V_case16 at hv
  refine lv_aload_n hx hb dL_law_1116 rfl (lv_at hl 1 rfl) ?_
  refine lv_aload_n hx hb dL_law_1117 rfl (lv_at hl 0 rfl) ?_
  refine lv_iload hx hb dL_law_1118 (lv_at hl 5 rfl) ?_
  refine lv_iconst (v := 1) hx hb dL_law_1120 (by decide) ?_
  refine lv_iadd hx hb dL_law_1121 ?_
  refine Z_sld hC hZ hX hbl hbF hin1 hx1 dL_law_1122 ?_
  refine lv_aload_n hx hb dL_law_1123 rfl (lv_at hl 3 rfl) ?_
  refine Z_callL hC (c_L_blocks l hfl D cs az a ao x1 g f _ hv) (vx_cwSW 3 hts gL_law_L_blocks rfl rfl rfl (by decide +kernel) ⟨Nat.le_of_ble_eq_true rfl, Nat.le_of_ble_eq_true rfl⟩) rfl hl rfl (Nat.le_of_ble_eq_true rfl) dL_law_1124 hZ hcR hsR (fun k1 g2 f3 H locs hv hZ => ?_)
  refine lv_istore (lv' := [(6, .int k1), (0, .ref b), (1, .ref (a 0)), (2, .ref (bm 0)), (3, .ref ao), (4, .ref ad), (5, .int (nI (4 * n)))]) hx hb dL_law_1127 hl (by decide) rfl (fun ls hl => ?_)
  refine lv_aload_n hx hb dL_law_1129 rfl (lv_at hl 3 rfl) ?_
  refine lv_aload_n hx hb dL_law_1130 rfl (lv_at hl 1 rfl) ?_
  refine lv_iload hx hb dL_law_1131 (lv_at hl 6 rfl) ?_
  refine lv_iconst (v := 1) hx hb dL_law_1133 (by decide) ?_
  refine lv_iadd hx hb dL_law_1134 ?_
  refine Z_sld hC hZ hX hbl hbF hin1 hx1 dL_law_1135 ?_
  refine Z_callMi hC (c_X7_blocks l D cs az bm x1 mu _ hv) (cwV 1 hts gL_law_X7_blocks rfl rfl rfl (by decide +kernel) ⟨Nat.le_of_ble_eq_true rfl, Nat.le_of_ble_eq_true rfl⟩) rfl hl rfl (Nat.le_of_ble_eq_true rfl) dL_law_1136 hZ hcR hsR (fun r4 mu5 H locs hv hZ => ?_)
  refine lv_istore (lv' := [(7, .int r4), (6, .int k1), (0, .ref b), (1, .ref (a 0)), (2, .ref (bm 0)), (3, .ref ao), (4, .ref ad), (5, .int (nI (4 * n)))]) hx hb dL_law_1139 hl (by decide) rfl (fun ls hl => ?_)
  refine lv_aload_n hx hb dL_law_1141 rfl (lv_at hl 4 rfl) ?_
  refine Z_callMi hC (c_X7_thrown l D cs az bm  mu5 _ hv) (cwV 0 hts gL_law_X7_thrown rfl rfl rfl (by decide +kernel) ⟨Nat.le_of_ble_eq_true rfl, Nat.le_of_ble_eq_true rfl⟩) rfl hl rfl (Nat.le_of_ble_eq_true rfl) dL_law_1142 hZ hcR hsR (fun r6 mu7 H locs hv hZ => ?_)
  refine lv_iload hx hb dL_law_1145 (lv_at hl 1 rfl) ?_
  refine lv_icmp_eq (tgt := 1152) hx hb dL_law_1147 (by decide) (fun c => ?_) (fun c => ?_)
  · have hv := hv.1 c
    refine lv_iload hx hb dL_law_1152 (lv_at hl 1 rfl) ?_
    refine lv_if_ne (tgt := 1169) hx hb dL_law_1154 (by decide) (fun c => ?_) (fun c => ?_)
    · have hv := hv.1 c
      refine lv_goto (tgt := 1641) hx hb dL_law_1169 (by decide) ?_
      exact hK g2 f3 fd mu7 hv _ _ _ hZ (lv_sub hl [2, 3, 4, 5, 6, 7] rfl)
    · have hv := hv.2 c
      refine lv_aload_n hx hb dL_law_1157 rfl (lv_at hl 5 rfl) ?_
      refine lv_iconst (v := 0) hx hb dL_law_1158 (by decide) ?_
      refine Z_lald hC hZ dL_law_1159 ?_
      refine lv_iload hx hb dL_law_1160 (lv_at hl 0 rfl) ?_
      refine lv_i2l (v := Int32.toInt64 r4) hx hb dL_law_1162 rfl ?_
      refine W.lcmp hx hb dL_law_1163 ?_
      refine lv_if_eq (tgt := 1169) hx hb dL_law_1164 (by decide) (fun c => ?_) (fun c => ?_)
      · have hv := hv.1 c
        refine lv_goto (tgt := 1641) hx hb dL_law_1169 (by decide) ?_
        exact hK g2 f3 fd mu7 hv _ _ _ hZ (lv_sub hl [2, 3, 4, 5, 6, 7] rfl)
      · have hv := hv.2 c
        exact False.elim hv
  · have hv := hv.2 c
    exact False.elim hv
def V_case17 (x1 x2 x3 : Int32) (g : St) (f : Nat → Int64) (fd : Nat → UInt64) (mu : St) (K : St → (Nat → Int64) → (Nat → UInt64) → St → Prop) : Prop := V_L_breakBlock x1 x2 g f (fun k1 z => V_X7_breakBlock x1 x2 mu (fun r4 mu5 => V_X7_thrown  mu5 (fun r6 mu7 => ((r6 = k1 → ((¬ k1 = 0 → K z.1 z.2 fd mu7) ∧ (k1 = 0 → ((r4 = 0 → (((lg_cmp (z.2 0) 0) = 0 → K z.1 z.2 fd mu7) ∧ (¬ (lg_cmp (z.2 0) 0) = 0 → False))) ∧ (¬ r4 = 0 → (((lg_cmp (z.2 0) 1) = 0 → K z.1 z.2 fd mu7) ∧ (¬ (lg_cmp (z.2 0) 1) = 0 → False))))))) ∧ (¬ r6 = k1 → False)))))
set_option maxHeartbeats 4000000 in
set_option maxRecDepth 100000 in
theorem law_case17 {p : Program} {l : Launch} {e : Env} {s : State} {m : MethodId} {args : Array Value} {below : List Frame} {meth : Method} {c : Code} {H : Heap} {locs : List Loc} {Q : State → Prop} {ls : Array Slot} {D : va_G} {cs az a bm : Nat → Nat} {ao ad : Nat} {F : Nat → Prop} {g mu : St} {f : Nat → Int64} {fd : Nat → UInt64} {b L n cc9 ss9 : Nat} {xs : Nat → Int32} {x1 x2 x3 : Int32} (hfl : l.flags = flags0) {K : St → (Nat → Int64) → (Nat → UInt64) → St → Prop} (hv : V_case17 x1 x2 x3 g f fd mu K)
    (hC : uC p m c cL_law 9 s args wsL_law RL D cs az F) (hX : va_X b L xs s s.heap) (hbl : b < s.heap.size) (hbF : ¬ F b) (hin1 : vp_in (nI (4 * n) + 1) L) (hin2 : vp_in (nI (4 * n) + 2) L) (hin3 : vp_in (nI (4 * n) + 3) L) (hx1 : xs (nI (4 * n) + 1).toNatClampNeg = x1) (hx2 : xs (nI (4 * n) + 2).toNatClampNeg = x2) (hx3 : xs (nI (4 * n) + 3).toNatClampNeg = x3)
    (hcR : cc9 + 4 ≤ room_1.cells) (hsR : ss9 + 24 ≤ room_1.slots)
    (hK : ∀ g' f' fd' mu', K g' f' fd' mu' → ∀ (H : Heap) (locs : List Loc) (ls : Array Slot), uZ D cs a bm ao ad F s g' f' fd' mu' H locs → lv_has ls 9 [(0, .ref b), (1, .ref (a 0)), (2, .ref (bm 0)), (3, .ref ao), (4, .ref ad), (5, .int (nI (4 * n)))] → W p l e room_1 s m args below meth c H locs (cc9 + 4) (ss9 + 24) Q (F0 m 1641 ls []))
    (hZ : uZ D cs a bm ao ad F s g f fd mu H locs) (hl : lv_has ls 9 [(0, .ref b), (1, .ref (a 0)), (2, .ref (bm 0)), (3, .ref ao), (4, .ref ad), (5, .int (nI (4 * n)))]) : W p l e room_1 s m args below meth c H locs cc9 ss9 Q (F0 m 1172 ls []) := by
  have hx := hC.1.1; have hb := hC.1.2.1; have hml := hC.1.2.2.1; have hts := hC.1.2.2.2.2
  have hown : s.vm.findClass RL = some m.cls := hC.1.2.2.2.1
  have hcR0 : cc9 ≤ room_1.cells := Nat.le_trans (Nat.le_add_right _ _) hcR; have hsR0 : ss9 ≤ room_1.slots := Nat.le_trans (Nat.le_add_right _ _) hsR
  unfold V_case17 at hv
  refine lv_aload_n hx hb dL_law_1172 rfl (lv_at hl 1 rfl) ?_
  refine lv_aload_n hx hb dL_law_1173 rfl (lv_at hl 0 rfl) ?_
  refine lv_iload hx hb dL_law_1174 (lv_at hl 5 rfl) ?_
  refine lv_iconst (v := 1) hx hb dL_law_1176 (by decide) ?_
  refine lv_iadd hx hb dL_law_1177 ?_
  refine Z_sld hC hZ hX hbl hbF hin1 hx1 dL_law_1178 ?_
  refine lv_aload_n hx hb dL_law_1179 rfl (lv_at hl 0 rfl) ?_
  refine lv_iload hx hb dL_law_1180 (lv_at hl 5 rfl) ?_
  refine lv_iconst (v := 2) hx hb dL_law_1182 (by decide) ?_
  refine lv_iadd hx hb dL_law_1183 ?_
  refine Z_sld hC hZ hX hbl hbF hin2 hx2 dL_law_1184 ?_
  refine lv_aload_n hx hb dL_law_1185 rfl (lv_at hl 3 rfl) ?_
  refine Z_callL hC (c_L_breakBlock l hfl D cs az a ao x1 x2 g f _ hv) (vx_cwSW 4 hts gL_law_L_breakBlock rfl rfl rfl (by decide +kernel) ⟨Nat.le_of_ble_eq_true rfl, Nat.le_of_ble_eq_true rfl⟩) rfl hl rfl (Nat.le_of_ble_eq_true rfl) dL_law_1186 hZ hcR hsR (fun k1 g2 f3 H locs hv hZ => ?_)
  refine lv_istore (lv' := [(6, .int k1), (0, .ref b), (1, .ref (a 0)), (2, .ref (bm 0)), (3, .ref ao), (4, .ref ad), (5, .int (nI (4 * n)))]) hx hb dL_law_1189 hl (by decide) rfl (fun ls hl => ?_)
  refine lv_aload_n hx hb dL_law_1191 rfl (lv_at hl 3 rfl) ?_
  refine lv_aload_n hx hb dL_law_1192 rfl (lv_at hl 1 rfl) ?_
  refine lv_iload hx hb dL_law_1193 (lv_at hl 6 rfl) ?_
  refine lv_iconst (v := 1) hx hb dL_law_1195 (by decide) ?_
  refine lv_iadd hx hb dL_law_1196 ?_
  refine Z_sld hC hZ hX hbl hbF hin1 hx1 dL_law_1197 ?_
  refine lv_aload_n hx hb dL_law_1198 rfl (lv_at hl 1 rfl) ?_
  refine lv_iload hx hb dL_law_1199 (lv_at hl 6 rfl) ?_
  refine lv_iconst (v := 2) hx hb dL_law_1201 (by decide) ?_
  refine lv_iadd hx hb dL_law_1202 ?_
  refine Z_sld hC hZ hX hbl hbF hin2 hx2 dL_law_1203 ?_
  refine Z_callMi hC (c_X7_breakBlock l D cs az bm x1 x2 mu _ hv) (cwV 2 hts gL_law_X7_breakBlock rfl rfl rfl (by decide +kernel) ⟨Nat.le_of_ble_eq_true rfl, Nat.le_of_ble_eq_true rfl⟩) rfl hl rfl (Nat.le_of_ble_eq_true rfl) dL_law_1204 hZ hcR hsR (fun r4 mu5 H locs hv hZ => ?_)
  refine lv_istore (lv' := [(7, .int r4), (6, .int k1), (0, .ref b), (1, .ref (a 0)), (2, .ref (bm 0)), (3, .ref ao), (4, .ref ad), (5, .int (nI (4 * n)))]) hx hb dL_law_1207 hl (by decide) rfl (fun ls hl => ?_)
  refine lv_aload_n hx hb dL_law_1209 rfl (lv_at hl 4 rfl) ?_
  refine Z_callMi hC (c_X7_thrown l D cs az bm  mu5 _ hv) (cwV 0 hts gL_law_X7_thrown rfl rfl rfl (by decide +kernel) ⟨Nat.le_of_ble_eq_true rfl, Nat.le_of_ble_eq_true rfl⟩) rfl hl rfl (Nat.le_of_ble_eq_true rfl) dL_law_1210 hZ hcR hsR (fun r6 mu7 H locs hv hZ => ?_)
  refine lv_iload hx hb dL_law_1213 (lv_at hl 1 rfl) ?_
  refine lv_icmp_eq (tgt := 1220) hx hb dL_law_1215 (by decide) (fun c => ?_) (fun c => ?_)
  · have hv := hv.1 c
    refine lv_iload hx hb dL_law_1220 (lv_at hl 1 rfl) ?_
    refine lv_if_ne (tgt := 1244) hx hb dL_law_1222 (by decide) (fun c => ?_) (fun c => ?_)
    · have hv := hv.1 c
      refine lv_goto (tgt := 1641) hx hb dL_law_1244 (by decide) ?_
      exact hK g2 f3 fd mu7 hv _ _ _ hZ (lv_sub hl [2, 3, 4, 5, 6, 7] rfl)
    · have hv := hv.2 c
      refine lv_aload_n hx hb dL_law_1225 rfl (lv_at hl 5 rfl) ?_
      refine lv_iconst (v := 0) hx hb dL_law_1226 (by decide) ?_
      refine Z_lald hC hZ dL_law_1227 ?_
      refine lv_iload hx hb dL_law_1228 (lv_at hl 0 rfl) ?_
      refine lv_if_eq (tgt := 1237) hx hb dL_law_1230 (by decide) (fun c => ?_) (fun c => ?_)
      · have hv := hv.1 c
        refine lv_lconst (v := 0) hx hb dL_law_1237 (by decide) ?_
        refine W.lcmp hx hb dL_law_1238 ?_
        refine lv_if_eq (tgt := 1244) hx hb dL_law_1239 (by decide) (fun c => ?_) (fun c => ?_)
        · have hv := hv.1 c
          refine lv_goto (tgt := 1641) hx hb dL_law_1244 (by decide) ?_
          exact hK g2 f3 fd mu7 hv _ _ _ hZ (lv_sub hl [2, 3, 4, 5, 6, 7] rfl)
        · have hv := hv.2 c
          exact False.elim hv
      · have hv := hv.2 c
        refine lv_lconst (v := 1) hx hb dL_law_1233 (by decide) ?_
        refine lv_goto (tgt := 1238) hx hb dL_law_1234 (by decide) ?_
        refine W.lcmp hx hb dL_law_1238 ?_
        refine lv_if_eq (tgt := 1244) hx hb dL_law_1239 (by decide) (fun c => ?_) (fun c => ?_)
        · have hv := hv.1 c
          refine lv_goto (tgt := 1641) hx hb dL_law_1244 (by decide) ?_
          exact hK g2 f3 fd mu7 hv _ _ _ hZ (lv_sub hl [2, 3, 4, 5, 6, 7] rfl)
        · have hv := hv.2 c
          exact False.elim hv
  · have hv := hv.2 c
    exact False.elim hv
def V_case18 (x1 x2 x3 : Int32) (g : St) (f : Nat → Int64) (fd : Nat → UInt64) (mu : St) (K : St → (Nat → Int64) → (Nat → UInt64) → St → Prop) : Prop := V_L_savedAt x1 x2 g f (fun k1 z => V_X7_savedAt x1 x2 mu (fun r4 mu5 => V_X7_thrown  mu5 (fun r6 mu7 => ((r6 = k1 → ((¬ k1 = 0 → K z.1 z.2 fd mu7) ∧ (k1 = 0 → (((lg_cmp (z.2 0) (Int32.toInt64 r4)) = 0 → K z.1 z.2 fd mu7) ∧ (¬ (lg_cmp (z.2 0) (Int32.toInt64 r4)) = 0 → False))))) ∧ (¬ r6 = k1 → False)))))
set_option maxHeartbeats 4000000 in
set_option maxRecDepth 100000 in
theorem law_case18 {p : Program} {l : Launch} {e : Env} {s : State} {m : MethodId} {args : Array Value} {below : List Frame} {meth : Method} {c : Code} {H : Heap} {locs : List Loc} {Q : State → Prop} {ls : Array Slot} {D : va_G} {cs az a bm : Nat → Nat} {ao ad : Nat} {F : Nat → Prop} {g mu : St} {f : Nat → Int64} {fd : Nat → UInt64} {b L n cc9 ss9 : Nat} {xs : Nat → Int32} {x1 x2 x3 : Int32} (hfl : l.flags = flags0) {K : St → (Nat → Int64) → (Nat → UInt64) → St → Prop} (hv : V_case18 x1 x2 x3 g f fd mu K)
    (hC : uC p m c cL_law 9 s args wsL_law RL D cs az F) (hX : va_X b L xs s s.heap) (hbl : b < s.heap.size) (hbF : ¬ F b) (hin1 : vp_in (nI (4 * n) + 1) L) (hin2 : vp_in (nI (4 * n) + 2) L) (hin3 : vp_in (nI (4 * n) + 3) L) (hx1 : xs (nI (4 * n) + 1).toNatClampNeg = x1) (hx2 : xs (nI (4 * n) + 2).toNatClampNeg = x2) (hx3 : xs (nI (4 * n) + 3).toNatClampNeg = x3)
    (hcR : cc9 + 4 ≤ room_1.cells) (hsR : ss9 + 24 ≤ room_1.slots)
    (hK : ∀ g' f' fd' mu', K g' f' fd' mu' → ∀ (H : Heap) (locs : List Loc) (ls : Array Slot), uZ D cs a bm ao ad F s g' f' fd' mu' H locs → lv_has ls 9 [(0, .ref b), (1, .ref (a 0)), (2, .ref (bm 0)), (3, .ref ao), (4, .ref ad), (5, .int (nI (4 * n)))] → W p l e room_1 s m args below meth c H locs (cc9 + 4) (ss9 + 24) Q (F0 m 1641 ls []))
    (hZ : uZ D cs a bm ao ad F s g f fd mu H locs) (hl : lv_has ls 9 [(0, .ref b), (1, .ref (a 0)), (2, .ref (bm 0)), (3, .ref ao), (4, .ref ad), (5, .int (nI (4 * n)))]) : W p l e room_1 s m args below meth c H locs cc9 ss9 Q (F0 m 1247 ls []) := by
  have hx := hC.1.1; have hb := hC.1.2.1; have hml := hC.1.2.2.1; have hts := hC.1.2.2.2.2
  have hown : s.vm.findClass RL = some m.cls := hC.1.2.2.2.1
  have hcR0 : cc9 ≤ room_1.cells := Nat.le_trans (Nat.le_add_right _ _) hcR; have hsR0 : ss9 ≤ room_1.slots := Nat.le_trans (Nat.le_add_right _ _) hsR
  unfold V_case18 at hv
  refine lv_aload_n hx hb dL_law_1247 rfl (lv_at hl 1 rfl) ?_
  refine lv_aload_n hx hb dL_law_1248 rfl (lv_at hl 0 rfl) ?_
  refine lv_iload hx hb dL_law_1249 (lv_at hl 5 rfl) ?_
  refine lv_iconst (v := 1) hx hb dL_law_1251 (by decide) ?_
  refine lv_iadd hx hb dL_law_1252 ?_
  refine Z_sld hC hZ hX hbl hbF hin1 hx1 dL_law_1253 ?_
  refine lv_aload_n hx hb dL_law_1254 rfl (lv_at hl 0 rfl) ?_
  refine lv_iload hx hb dL_law_1255 (lv_at hl 5 rfl) ?_
  refine lv_iconst (v := 2) hx hb dL_law_1257 (by decide) ?_
  refine lv_iadd hx hb dL_law_1258 ?_
  refine Z_sld hC hZ hX hbl hbF hin2 hx2 dL_law_1259 ?_
  refine lv_aload_n hx hb dL_law_1260 rfl (lv_at hl 3 rfl) ?_
  refine Z_callL hC (c_L_savedAt l hfl D cs az a ao x1 x2 g f _ hv) (vx_cwSW 4 hts gL_law_L_savedAt rfl rfl rfl (by decide +kernel) ⟨Nat.le_of_ble_eq_true rfl, Nat.le_of_ble_eq_true rfl⟩) rfl hl rfl (Nat.le_of_ble_eq_true rfl) dL_law_1261 hZ hcR hsR (fun k1 g2 f3 H locs hv hZ => ?_)
  refine lv_istore (lv' := [(6, .int k1), (0, .ref b), (1, .ref (a 0)), (2, .ref (bm 0)), (3, .ref ao), (4, .ref ad), (5, .int (nI (4 * n)))]) hx hb dL_law_1264 hl (by decide) rfl (fun ls hl => ?_)
  refine lv_aload_n hx hb dL_law_1266 rfl (lv_at hl 3 rfl) ?_
  refine lv_aload_n hx hb dL_law_1267 rfl (lv_at hl 1 rfl) ?_
  refine lv_iload hx hb dL_law_1268 (lv_at hl 6 rfl) ?_
  refine lv_iconst (v := 1) hx hb dL_law_1270 (by decide) ?_
  refine lv_iadd hx hb dL_law_1271 ?_
  refine Z_sld hC hZ hX hbl hbF hin1 hx1 dL_law_1272 ?_
  refine lv_aload_n hx hb dL_law_1273 rfl (lv_at hl 1 rfl) ?_
  refine lv_iload hx hb dL_law_1274 (lv_at hl 6 rfl) ?_
  refine lv_iconst (v := 2) hx hb dL_law_1276 (by decide) ?_
  refine lv_iadd hx hb dL_law_1277 ?_
  refine Z_sld hC hZ hX hbl hbF hin2 hx2 dL_law_1278 ?_
  refine Z_callMi hC (c_X7_savedAt l D cs az bm x1 x2 mu _ hv) (cwV 2 hts gL_law_X7_savedAt rfl rfl rfl (by decide +kernel) ⟨Nat.le_of_ble_eq_true rfl, Nat.le_of_ble_eq_true rfl⟩) rfl hl rfl (Nat.le_of_ble_eq_true rfl) dL_law_1279 hZ hcR hsR (fun r4 mu5 H locs hv hZ => ?_)
  refine lv_istore (lv' := [(7, .int r4), (6, .int k1), (0, .ref b), (1, .ref (a 0)), (2, .ref (bm 0)), (3, .ref ao), (4, .ref ad), (5, .int (nI (4 * n)))]) hx hb dL_law_1282 hl (by decide) rfl (fun ls hl => ?_)
  refine lv_aload_n hx hb dL_law_1284 rfl (lv_at hl 4 rfl) ?_
  refine Z_callMi hC (c_X7_thrown l D cs az bm  mu5 _ hv) (cwV 0 hts gL_law_X7_thrown rfl rfl rfl (by decide +kernel) ⟨Nat.le_of_ble_eq_true rfl, Nat.le_of_ble_eq_true rfl⟩) rfl hl rfl (Nat.le_of_ble_eq_true rfl) dL_law_1285 hZ hcR hsR (fun r6 mu7 H locs hv hZ => ?_)
  refine lv_iload hx hb dL_law_1288 (lv_at hl 1 rfl) ?_
  refine lv_icmp_eq (tgt := 1295) hx hb dL_law_1290 (by decide) (fun c => ?_) (fun c => ?_)
  · have hv := hv.1 c
    refine lv_iload hx hb dL_law_1295 (lv_at hl 1 rfl) ?_
    refine lv_if_ne (tgt := 1312) hx hb dL_law_1297 (by decide) (fun c => ?_) (fun c => ?_)
    · have hv := hv.1 c
      refine lv_goto (tgt := 1641) hx hb dL_law_1312 (by decide) ?_
      exact hK g2 f3 fd mu7 hv _ _ _ hZ (lv_sub hl [2, 3, 4, 5, 6, 7] rfl)
    · have hv := hv.2 c
      refine lv_aload_n hx hb dL_law_1300 rfl (lv_at hl 5 rfl) ?_
      refine lv_iconst (v := 0) hx hb dL_law_1301 (by decide) ?_
      refine Z_lald hC hZ dL_law_1302 ?_
      refine lv_iload hx hb dL_law_1303 (lv_at hl 0 rfl) ?_
      refine lv_i2l (v := Int32.toInt64 r4) hx hb dL_law_1305 rfl ?_
      refine W.lcmp hx hb dL_law_1306 ?_
      refine lv_if_eq (tgt := 1312) hx hb dL_law_1307 (by decide) (fun c => ?_) (fun c => ?_)
      · have hv := hv.1 c
        refine lv_goto (tgt := 1641) hx hb dL_law_1312 (by decide) ?_
        exact hK g2 f3 fd mu7 hv _ _ _ hZ (lv_sub hl [2, 3, 4, 5, 6, 7] rfl)
      · have hv := hv.2 c
        exact False.elim hv
  · have hv := hv.2 c
    exact False.elim hv
def V_case19 (x1 x2 x3 : Int32) (g : St) (f : Nat → Int64) (fd : Nat → UInt64) (mu : St) (K : St → (Nat → Int64) → (Nat → UInt64) → St → Prop) : Prop := V_L_repair x1 g f (fun k1 z => V_X7_repair x1 mu (fun r4 mu5 => V_X7_thrown  mu5 (fun r6 mu7 => ((r6 = k1 → ((¬ k1 = 0 → K z.1 z.2 fd mu7) ∧ (k1 = 0 → (((lg_cmp (z.2 0) (Int32.toInt64 r4)) = 0 → K z.1 z.2 fd mu7) ∧ (¬ (lg_cmp (z.2 0) (Int32.toInt64 r4)) = 0 → False))))) ∧ (¬ r6 = k1 → False)))))
set_option maxHeartbeats 4000000 in
set_option maxRecDepth 100000 in
theorem law_case19 {p : Program} {l : Launch} {e : Env} {s : State} {m : MethodId} {args : Array Value} {below : List Frame} {meth : Method} {c : Code} {H : Heap} {locs : List Loc} {Q : State → Prop} {ls : Array Slot} {D : va_G} {cs az a bm : Nat → Nat} {ao ad : Nat} {F : Nat → Prop} {g mu : St} {f : Nat → Int64} {fd : Nat → UInt64} {b L n cc9 ss9 : Nat} {xs : Nat → Int32} {x1 x2 x3 : Int32} (hfl : l.flags = flags0) {K : St → (Nat → Int64) → (Nat → UInt64) → St → Prop} (hv : V_case19 x1 x2 x3 g f fd mu K)
    (hC : uC p m c cL_law 9 s args wsL_law RL D cs az F) (hX : va_X b L xs s s.heap) (hbl : b < s.heap.size) (hbF : ¬ F b) (hin1 : vp_in (nI (4 * n) + 1) L) (hin2 : vp_in (nI (4 * n) + 2) L) (hin3 : vp_in (nI (4 * n) + 3) L) (hx1 : xs (nI (4 * n) + 1).toNatClampNeg = x1) (hx2 : xs (nI (4 * n) + 2).toNatClampNeg = x2) (hx3 : xs (nI (4 * n) + 3).toNatClampNeg = x3)
    (hcR : cc9 + 4 ≤ room_1.cells) (hsR : ss9 + 24 ≤ room_1.slots)
    (hK : ∀ g' f' fd' mu', K g' f' fd' mu' → ∀ (H : Heap) (locs : List Loc) (ls : Array Slot), uZ D cs a bm ao ad F s g' f' fd' mu' H locs → lv_has ls 9 [(0, .ref b), (1, .ref (a 0)), (2, .ref (bm 0)), (3, .ref ao), (4, .ref ad), (5, .int (nI (4 * n)))] → W p l e room_1 s m args below meth c H locs (cc9 + 4) (ss9 + 24) Q (F0 m 1641 ls []))
    (hZ : uZ D cs a bm ao ad F s g f fd mu H locs) (hl : lv_has ls 9 [(0, .ref b), (1, .ref (a 0)), (2, .ref (bm 0)), (3, .ref ao), (4, .ref ad), (5, .int (nI (4 * n)))]) : W p l e room_1 s m args below meth c H locs cc9 ss9 Q (F0 m 1315 ls []) := by
  have hx := hC.1.1; have hb := hC.1.2.1; have hml := hC.1.2.2.1; have hts := hC.1.2.2.2.2
  have hown : s.vm.findClass RL = some m.cls := hC.1.2.2.2.1
  have hcR0 : cc9 ≤ room_1.cells := Nat.le_trans (Nat.le_add_right _ _) hcR; have hsR0 : ss9 ≤ room_1.slots := Nat.le_trans (Nat.le_add_right _ _) hsR
  unfold V_case19 at hv
  refine lv_aload_n hx hb dL_law_1315 rfl (lv_at hl 1 rfl) ?_
  refine lv_aload_n hx hb dL_law_1316 rfl (lv_at hl 0 rfl) ?_
  refine lv_iload hx hb dL_law_1317 (lv_at hl 5 rfl) ?_
  refine lv_iconst (v := 1) hx hb dL_law_1319 (by decide) ?_
  refine lv_iadd hx hb dL_law_1320 ?_
  refine Z_sld hC hZ hX hbl hbF hin1 hx1 dL_law_1321 ?_
  refine lv_aload_n hx hb dL_law_1322 rfl (lv_at hl 3 rfl) ?_
  refine Z_callL hC (c_L_repair l hfl D cs az a ao x1 g f _ hv) (vx_cwSW 3 hts gL_law_L_repair rfl rfl rfl (by decide +kernel) ⟨Nat.le_of_ble_eq_true rfl, Nat.le_of_ble_eq_true rfl⟩) rfl hl rfl (Nat.le_of_ble_eq_true rfl) dL_law_1323 hZ hcR hsR (fun k1 g2 f3 H locs hv hZ => ?_)
  refine lv_istore (lv' := [(6, .int k1), (0, .ref b), (1, .ref (a 0)), (2, .ref (bm 0)), (3, .ref ao), (4, .ref ad), (5, .int (nI (4 * n)))]) hx hb dL_law_1326 hl (by decide) rfl (fun ls hl => ?_)
  refine lv_aload_n hx hb dL_law_1328 rfl (lv_at hl 3 rfl) ?_
  refine lv_aload_n hx hb dL_law_1329 rfl (lv_at hl 1 rfl) ?_
  refine lv_iload hx hb dL_law_1330 (lv_at hl 6 rfl) ?_
  refine lv_iconst (v := 1) hx hb dL_law_1332 (by decide) ?_
  refine lv_iadd hx hb dL_law_1333 ?_
  refine Z_sld hC hZ hX hbl hbF hin1 hx1 dL_law_1334 ?_
  refine Z_callMi hC (c_X7_repair l D cs az bm x1 mu _ hv) (cwV 1 hts gL_law_X7_repair rfl rfl rfl (by decide +kernel) ⟨Nat.le_of_ble_eq_true rfl, Nat.le_of_ble_eq_true rfl⟩) rfl hl rfl (Nat.le_of_ble_eq_true rfl) dL_law_1335 hZ hcR hsR (fun r4 mu5 H locs hv hZ => ?_)
  refine lv_istore (lv' := [(7, .int r4), (6, .int k1), (0, .ref b), (1, .ref (a 0)), (2, .ref (bm 0)), (3, .ref ao), (4, .ref ad), (5, .int (nI (4 * n)))]) hx hb dL_law_1338 hl (by decide) rfl (fun ls hl => ?_)
  refine lv_aload_n hx hb dL_law_1340 rfl (lv_at hl 4 rfl) ?_
  refine Z_callMi hC (c_X7_thrown l D cs az bm  mu5 _ hv) (cwV 0 hts gL_law_X7_thrown rfl rfl rfl (by decide +kernel) ⟨Nat.le_of_ble_eq_true rfl, Nat.le_of_ble_eq_true rfl⟩) rfl hl rfl (Nat.le_of_ble_eq_true rfl) dL_law_1341 hZ hcR hsR (fun r6 mu7 H locs hv hZ => ?_)
  refine lv_iload hx hb dL_law_1344 (lv_at hl 1 rfl) ?_
  refine lv_icmp_eq (tgt := 1351) hx hb dL_law_1346 (by decide) (fun c => ?_) (fun c => ?_)
  · have hv := hv.1 c
    refine lv_iload hx hb dL_law_1351 (lv_at hl 1 rfl) ?_
    refine lv_if_ne (tgt := 1368) hx hb dL_law_1353 (by decide) (fun c => ?_) (fun c => ?_)
    · have hv := hv.1 c
      refine lv_goto (tgt := 1641) hx hb dL_law_1368 (by decide) ?_
      exact hK g2 f3 fd mu7 hv _ _ _ hZ (lv_sub hl [2, 3, 4, 5, 6, 7] rfl)
    · have hv := hv.2 c
      refine lv_aload_n hx hb dL_law_1356 rfl (lv_at hl 5 rfl) ?_
      refine lv_iconst (v := 0) hx hb dL_law_1357 (by decide) ?_
      refine Z_lald hC hZ dL_law_1358 ?_
      refine lv_iload hx hb dL_law_1359 (lv_at hl 0 rfl) ?_
      refine lv_i2l (v := Int32.toInt64 r4) hx hb dL_law_1361 rfl ?_
      refine W.lcmp hx hb dL_law_1362 ?_
      refine lv_if_eq (tgt := 1368) hx hb dL_law_1363 (by decide) (fun c => ?_) (fun c => ?_)
      · have hv := hv.1 c
        refine lv_goto (tgt := 1641) hx hb dL_law_1368 (by decide) ?_
        exact hK g2 f3 fd mu7 hv _ _ _ hZ (lv_sub hl [2, 3, 4, 5, 6, 7] rfl)
      · have hv := hv.2 c
        exact False.elim hv
  · have hv := hv.2 c
    exact False.elim hv
def V_case20 (x1 x2 x3 : Int32) (g : St) (f : Nat → Int64) (fd : Nat → UInt64) (mu : St) (K : St → (Nat → Int64) → (Nat → UInt64) → St → Prop) : Prop := V_L_load x1 g f (fun k1 z => V_X7_load x1 mu (fun r4 mu5 => V_X7_thrown  mu5 (fun r6 mu7 => ((r6 = k1 → ((¬ k1 = 0 → K z.1 z.2 fd mu7) ∧ (k1 = 0 → (((lg_cmp (z.2 0) (Int32.toInt64 r4)) = 0 → K z.1 z.2 fd mu7) ∧ (¬ (lg_cmp (z.2 0) (Int32.toInt64 r4)) = 0 → False))))) ∧ (¬ r6 = k1 → False)))))
set_option maxHeartbeats 4000000 in
set_option maxRecDepth 100000 in
theorem law_case20 {p : Program} {l : Launch} {e : Env} {s : State} {m : MethodId} {args : Array Value} {below : List Frame} {meth : Method} {c : Code} {H : Heap} {locs : List Loc} {Q : State → Prop} {ls : Array Slot} {D : va_G} {cs az a bm : Nat → Nat} {ao ad : Nat} {F : Nat → Prop} {g mu : St} {f : Nat → Int64} {fd : Nat → UInt64} {b L n cc9 ss9 : Nat} {xs : Nat → Int32} {x1 x2 x3 : Int32} (hfl : l.flags = flags0) {K : St → (Nat → Int64) → (Nat → UInt64) → St → Prop} (hv : V_case20 x1 x2 x3 g f fd mu K)
    (hC : uC p m c cL_law 9 s args wsL_law RL D cs az F) (hX : va_X b L xs s s.heap) (hbl : b < s.heap.size) (hbF : ¬ F b) (hin1 : vp_in (nI (4 * n) + 1) L) (hin2 : vp_in (nI (4 * n) + 2) L) (hin3 : vp_in (nI (4 * n) + 3) L) (hx1 : xs (nI (4 * n) + 1).toNatClampNeg = x1) (hx2 : xs (nI (4 * n) + 2).toNatClampNeg = x2) (hx3 : xs (nI (4 * n) + 3).toNatClampNeg = x3)
    (hcR : cc9 + 4 ≤ room_1.cells) (hsR : ss9 + 24 ≤ room_1.slots)
    (hK : ∀ g' f' fd' mu', K g' f' fd' mu' → ∀ (H : Heap) (locs : List Loc) (ls : Array Slot), uZ D cs a bm ao ad F s g' f' fd' mu' H locs → lv_has ls 9 [(0, .ref b), (1, .ref (a 0)), (2, .ref (bm 0)), (3, .ref ao), (4, .ref ad), (5, .int (nI (4 * n)))] → W p l e room_1 s m args below meth c H locs (cc9 + 4) (ss9 + 24) Q (F0 m 1641 ls []))
    (hZ : uZ D cs a bm ao ad F s g f fd mu H locs) (hl : lv_has ls 9 [(0, .ref b), (1, .ref (a 0)), (2, .ref (bm 0)), (3, .ref ao), (4, .ref ad), (5, .int (nI (4 * n)))]) : W p l e room_1 s m args below meth c H locs cc9 ss9 Q (F0 m 1371 ls []) := by
  have hx := hC.1.1; have hb := hC.1.2.1; have hml := hC.1.2.2.1; have hts := hC.1.2.2.2.2
  have hown : s.vm.findClass RL = some m.cls := hC.1.2.2.2.1
  have hcR0 : cc9 ≤ room_1.cells := Nat.le_trans (Nat.le_add_right _ _) hcR; have hsR0 : ss9 ≤ room_1.slots := Nat.le_trans (Nat.le_add_right _ _) hsR
  unfold V_case20 at hv
  refine lv_aload_n hx hb dL_law_1371 rfl (lv_at hl 1 rfl) ?_
  refine lv_aload_n hx hb dL_law_1372 rfl (lv_at hl 0 rfl) ?_
  refine lv_iload hx hb dL_law_1373 (lv_at hl 5 rfl) ?_
  refine lv_iconst (v := 1) hx hb dL_law_1375 (by decide) ?_
  refine lv_iadd hx hb dL_law_1376 ?_
  refine Z_sld hC hZ hX hbl hbF hin1 hx1 dL_law_1377 ?_
  refine lv_aload_n hx hb dL_law_1378 rfl (lv_at hl 3 rfl) ?_
  refine Z_callL hC (c_L_load l hfl D cs az a ao x1 g f _ hv) (vx_cwSW 3 hts gL_law_L_load rfl rfl rfl (by decide +kernel) ⟨Nat.le_of_ble_eq_true rfl, Nat.le_of_ble_eq_true rfl⟩) rfl hl rfl (Nat.le_of_ble_eq_true rfl) dL_law_1379 hZ hcR hsR (fun k1 g2 f3 H locs hv hZ => ?_)
  refine lv_istore (lv' := [(6, .int k1), (0, .ref b), (1, .ref (a 0)), (2, .ref (bm 0)), (3, .ref ao), (4, .ref ad), (5, .int (nI (4 * n)))]) hx hb dL_law_1382 hl (by decide) rfl (fun ls hl => ?_)
  refine lv_aload_n hx hb dL_law_1384 rfl (lv_at hl 3 rfl) ?_
  refine lv_aload_n hx hb dL_law_1385 rfl (lv_at hl 1 rfl) ?_
  refine lv_iload hx hb dL_law_1386 (lv_at hl 6 rfl) ?_
  refine lv_iconst (v := 1) hx hb dL_law_1388 (by decide) ?_
  refine lv_iadd hx hb dL_law_1389 ?_
  refine Z_sld hC hZ hX hbl hbF hin1 hx1 dL_law_1390 ?_
  refine Z_callMi hC (c_X7_load l D cs az bm x1 mu _ hv) (cwV 1 hts gL_law_X7_load rfl rfl rfl (by decide +kernel) ⟨Nat.le_of_ble_eq_true rfl, Nat.le_of_ble_eq_true rfl⟩) rfl hl rfl (Nat.le_of_ble_eq_true rfl) dL_law_1391 hZ hcR hsR (fun r4 mu5 H locs hv hZ => ?_)
  refine lv_istore (lv' := [(7, .int r4), (6, .int k1), (0, .ref b), (1, .ref (a 0)), (2, .ref (bm 0)), (3, .ref ao), (4, .ref ad), (5, .int (nI (4 * n)))]) hx hb dL_law_1394 hl (by decide) rfl (fun ls hl => ?_)
  refine lv_aload_n hx hb dL_law_1396 rfl (lv_at hl 4 rfl) ?_
  refine Z_callMi hC (c_X7_thrown l D cs az bm  mu5 _ hv) (cwV 0 hts gL_law_X7_thrown rfl rfl rfl (by decide +kernel) ⟨Nat.le_of_ble_eq_true rfl, Nat.le_of_ble_eq_true rfl⟩) rfl hl rfl (Nat.le_of_ble_eq_true rfl) dL_law_1397 hZ hcR hsR (fun r6 mu7 H locs hv hZ => ?_)
  refine lv_iload hx hb dL_law_1400 (lv_at hl 1 rfl) ?_
  refine lv_icmp_eq (tgt := 1407) hx hb dL_law_1402 (by decide) (fun c => ?_) (fun c => ?_)
  · have hv := hv.1 c
    refine lv_iload hx hb dL_law_1407 (lv_at hl 1 rfl) ?_
    refine lv_if_ne (tgt := 1424) hx hb dL_law_1409 (by decide) (fun c => ?_) (fun c => ?_)
    · have hv := hv.1 c
      refine lv_goto (tgt := 1641) hx hb dL_law_1424 (by decide) ?_
      exact hK g2 f3 fd mu7 hv _ _ _ hZ (lv_sub hl [2, 3, 4, 5, 6, 7] rfl)
    · have hv := hv.2 c
      refine lv_aload_n hx hb dL_law_1412 rfl (lv_at hl 5 rfl) ?_
      refine lv_iconst (v := 0) hx hb dL_law_1413 (by decide) ?_
      refine Z_lald hC hZ dL_law_1414 ?_
      refine lv_iload hx hb dL_law_1415 (lv_at hl 0 rfl) ?_
      refine lv_i2l (v := Int32.toInt64 r4) hx hb dL_law_1417 rfl ?_
      refine W.lcmp hx hb dL_law_1418 ?_
      refine lv_if_eq (tgt := 1424) hx hb dL_law_1419 (by decide) (fun c => ?_) (fun c => ?_)
      · have hv := hv.1 c
        refine lv_goto (tgt := 1641) hx hb dL_law_1424 (by decide) ?_
        exact hK g2 f3 fd mu7 hv _ _ _ hZ (lv_sub hl [2, 3, 4, 5, 6, 7] rfl)
      · have hv := hv.2 c
        exact False.elim hv
  · have hv := hv.2 c
    exact False.elim hv
def V_case21 (x1 x2 x3 : Int32) (g : St) (f : Nat → Int64) (fd : Nat → UInt64) (mu : St) (K : St → (Nat → Int64) → (Nat → UInt64) → St → Prop) : Prop := V_L_allies x1 g f (fun k1 z => V_X7_allies x1 mu (fun r4 mu5 => V_X7_thrown  mu5 (fun r6 mu7 => ((r6 = k1 → ((¬ k1 = 0 → K z.1 z.2 fd mu7) ∧ (k1 = 0 → (((lg_cmp (z.2 0) (Int32.toInt64 r4)) = 0 → K z.1 z.2 fd mu7) ∧ (¬ (lg_cmp (z.2 0) (Int32.toInt64 r4)) = 0 → False))))) ∧ (¬ r6 = k1 → False)))))
set_option maxHeartbeats 4000000 in
set_option maxRecDepth 100000 in
theorem law_case21 {p : Program} {l : Launch} {e : Env} {s : State} {m : MethodId} {args : Array Value} {below : List Frame} {meth : Method} {c : Code} {H : Heap} {locs : List Loc} {Q : State → Prop} {ls : Array Slot} {D : va_G} {cs az a bm : Nat → Nat} {ao ad : Nat} {F : Nat → Prop} {g mu : St} {f : Nat → Int64} {fd : Nat → UInt64} {b L n cc9 ss9 : Nat} {xs : Nat → Int32} {x1 x2 x3 : Int32} (hfl : l.flags = flags0) {K : St → (Nat → Int64) → (Nat → UInt64) → St → Prop} (hv : V_case21 x1 x2 x3 g f fd mu K)
    (hC : uC p m c cL_law 9 s args wsL_law RL D cs az F) (hX : va_X b L xs s s.heap) (hbl : b < s.heap.size) (hbF : ¬ F b) (hin1 : vp_in (nI (4 * n) + 1) L) (hin2 : vp_in (nI (4 * n) + 2) L) (hin3 : vp_in (nI (4 * n) + 3) L) (hx1 : xs (nI (4 * n) + 1).toNatClampNeg = x1) (hx2 : xs (nI (4 * n) + 2).toNatClampNeg = x2) (hx3 : xs (nI (4 * n) + 3).toNatClampNeg = x3)
    (hcR : cc9 + 4 ≤ room_1.cells) (hsR : ss9 + 24 ≤ room_1.slots)
    (hK : ∀ g' f' fd' mu', K g' f' fd' mu' → ∀ (H : Heap) (locs : List Loc) (ls : Array Slot), uZ D cs a bm ao ad F s g' f' fd' mu' H locs → lv_has ls 9 [(0, .ref b), (1, .ref (a 0)), (2, .ref (bm 0)), (3, .ref ao), (4, .ref ad), (5, .int (nI (4 * n)))] → W p l e room_1 s m args below meth c H locs (cc9 + 4) (ss9 + 24) Q (F0 m 1641 ls []))
    (hZ : uZ D cs a bm ao ad F s g f fd mu H locs) (hl : lv_has ls 9 [(0, .ref b), (1, .ref (a 0)), (2, .ref (bm 0)), (3, .ref ao), (4, .ref ad), (5, .int (nI (4 * n)))]) : W p l e room_1 s m args below meth c H locs cc9 ss9 Q (F0 m 1427 ls []) := by
  have hx := hC.1.1; have hb := hC.1.2.1; have hml := hC.1.2.2.1; have hts := hC.1.2.2.2.2
  have hown : s.vm.findClass RL = some m.cls := hC.1.2.2.2.1
  have hcR0 : cc9 ≤ room_1.cells := Nat.le_trans (Nat.le_add_right _ _) hcR; have hsR0 : ss9 ≤ room_1.slots := Nat.le_trans (Nat.le_add_right _ _) hsR
  unfold V_case21 at hv
  refine lv_aload_n hx hb dL_law_1427 rfl (lv_at hl 1 rfl) ?_
  refine lv_aload_n hx hb dL_law_1428 rfl (lv_at hl 0 rfl) ?_
  refine lv_iload hx hb dL_law_1429 (lv_at hl 5 rfl) ?_
  refine lv_iconst (v := 1) hx hb dL_law_1431 (by decide) ?_
  refine lv_iadd hx hb dL_law_1432 ?_
  refine Z_sld hC hZ hX hbl hbF hin1 hx1 dL_law_1433 ?_
  refine lv_aload_n hx hb dL_law_1434 rfl (lv_at hl 3 rfl) ?_
  refine Z_callL hC (c_L_allies l hfl D cs az a ao x1 g f _ hv) (vx_cwSW 3 hts gL_law_L_allies rfl rfl rfl (by decide +kernel) ⟨Nat.le_of_ble_eq_true rfl, Nat.le_of_ble_eq_true rfl⟩) rfl hl rfl (Nat.le_of_ble_eq_true rfl) dL_law_1435 hZ hcR hsR (fun k1 g2 f3 H locs hv hZ => ?_)
  refine lv_istore (lv' := [(6, .int k1), (0, .ref b), (1, .ref (a 0)), (2, .ref (bm 0)), (3, .ref ao), (4, .ref ad), (5, .int (nI (4 * n)))]) hx hb dL_law_1438 hl (by decide) rfl (fun ls hl => ?_)
  refine lv_aload_n hx hb dL_law_1440 rfl (lv_at hl 3 rfl) ?_
  refine lv_aload_n hx hb dL_law_1441 rfl (lv_at hl 1 rfl) ?_
  refine lv_iload hx hb dL_law_1442 (lv_at hl 6 rfl) ?_
  refine lv_iconst (v := 1) hx hb dL_law_1444 (by decide) ?_
  refine lv_iadd hx hb dL_law_1445 ?_
  refine Z_sld hC hZ hX hbl hbF hin1 hx1 dL_law_1446 ?_
  refine Z_callMi hC (c_X7_allies l D cs az bm x1 mu _ hv) (cwV 1 hts gL_law_X7_allies rfl rfl rfl (by decide +kernel) ⟨Nat.le_of_ble_eq_true rfl, Nat.le_of_ble_eq_true rfl⟩) rfl hl rfl (Nat.le_of_ble_eq_true rfl) dL_law_1447 hZ hcR hsR (fun r4 mu5 H locs hv hZ => ?_)
  refine lv_istore (lv' := [(7, .int r4), (6, .int k1), (0, .ref b), (1, .ref (a 0)), (2, .ref (bm 0)), (3, .ref ao), (4, .ref ad), (5, .int (nI (4 * n)))]) hx hb dL_law_1450 hl (by decide) rfl (fun ls hl => ?_)
  refine lv_aload_n hx hb dL_law_1452 rfl (lv_at hl 4 rfl) ?_
  refine Z_callMi hC (c_X7_thrown l D cs az bm  mu5 _ hv) (cwV 0 hts gL_law_X7_thrown rfl rfl rfl (by decide +kernel) ⟨Nat.le_of_ble_eq_true rfl, Nat.le_of_ble_eq_true rfl⟩) rfl hl rfl (Nat.le_of_ble_eq_true rfl) dL_law_1453 hZ hcR hsR (fun r6 mu7 H locs hv hZ => ?_)
  refine lv_iload hx hb dL_law_1456 (lv_at hl 1 rfl) ?_
  refine lv_icmp_eq (tgt := 1463) hx hb dL_law_1458 (by decide) (fun c => ?_) (fun c => ?_)
  · have hv := hv.1 c
    refine lv_iload hx hb dL_law_1463 (lv_at hl 1 rfl) ?_
    refine lv_if_ne (tgt := 1480) hx hb dL_law_1465 (by decide) (fun c => ?_) (fun c => ?_)
    · have hv := hv.1 c
      refine lv_goto (tgt := 1641) hx hb dL_law_1480 (by decide) ?_
      exact hK g2 f3 fd mu7 hv _ _ _ hZ (lv_sub hl [2, 3, 4, 5, 6, 7] rfl)
    · have hv := hv.2 c
      refine lv_aload_n hx hb dL_law_1468 rfl (lv_at hl 5 rfl) ?_
      refine lv_iconst (v := 0) hx hb dL_law_1469 (by decide) ?_
      refine Z_lald hC hZ dL_law_1470 ?_
      refine lv_iload hx hb dL_law_1471 (lv_at hl 0 rfl) ?_
      refine lv_i2l (v := Int32.toInt64 r4) hx hb dL_law_1473 rfl ?_
      refine W.lcmp hx hb dL_law_1474 ?_
      refine lv_if_eq (tgt := 1480) hx hb dL_law_1475 (by decide) (fun c => ?_) (fun c => ?_)
      · have hv := hv.1 c
        refine lv_goto (tgt := 1641) hx hb dL_law_1480 (by decide) ?_
        exact hK g2 f3 fd mu7 hv _ _ _ hZ (lv_sub hl [2, 3, 4, 5, 6, 7] rfl)
      · have hv := hv.2 c
        exact False.elim hv
  · have hv := hv.2 c
    exact False.elim hv
def V_case22 (x1 x2 x3 : Int32) (g : St) (f : Nat → Int64) (fd : Nat → UInt64) (mu : St) (K : St → (Nat → Int64) → (Nat → UInt64) → St → Prop) : Prop := V_X6_checksum  g (fun r1 g2 => V_X7_checksum  mu (fun r3 mu4 => (((lg_cmp r1 r3) = 0 → K g2 f fd mu4) ∧ (¬ (lg_cmp r1 r3) = 0 → False))))
set_option maxHeartbeats 4000000 in
set_option maxRecDepth 100000 in
theorem law_case22 {p : Program} {l : Launch} {e : Env} {s : State} {m : MethodId} {args : Array Value} {below : List Frame} {meth : Method} {c : Code} {H : Heap} {locs : List Loc} {Q : State → Prop} {ls : Array Slot} {D : va_G} {cs az a bm : Nat → Nat} {ao ad : Nat} {F : Nat → Prop} {g mu : St} {f : Nat → Int64} {fd : Nat → UInt64} {b L n cc9 ss9 : Nat} {xs : Nat → Int32} {x1 x2 x3 : Int32} (hfl : l.flags = flags0) {K : St → (Nat → Int64) → (Nat → UInt64) → St → Prop} (hv : V_case22 x1 x2 x3 g f fd mu K)
    (hC : uC p m c cL_law 9 s args wsL_law RL D cs az F) (hX : va_X b L xs s s.heap) (hbl : b < s.heap.size) (hbF : ¬ F b) (hin1 : vp_in (nI (4 * n) + 1) L) (hin2 : vp_in (nI (4 * n) + 2) L) (hin3 : vp_in (nI (4 * n) + 3) L) (hx1 : xs (nI (4 * n) + 1).toNatClampNeg = x1) (hx2 : xs (nI (4 * n) + 2).toNatClampNeg = x2) (hx3 : xs (nI (4 * n) + 3).toNatClampNeg = x3)
    (hcR : cc9 + 4 ≤ room_1.cells) (hsR : ss9 + 24 ≤ room_1.slots)
    (hK : ∀ g' f' fd' mu', K g' f' fd' mu' → ∀ (H : Heap) (locs : List Loc) (ls : Array Slot), uZ D cs a bm ao ad F s g' f' fd' mu' H locs → lv_has ls 9 [(0, .ref b), (1, .ref (a 0)), (2, .ref (bm 0)), (3, .ref ao), (4, .ref ad), (5, .int (nI (4 * n)))] → W p l e room_1 s m args below meth c H locs (cc9 + 4) (ss9 + 24) Q (F0 m 1641 ls []))
    (hZ : uZ D cs a bm ao ad F s g f fd mu H locs) (hl : lv_has ls 9 [(0, .ref b), (1, .ref (a 0)), (2, .ref (bm 0)), (3, .ref ao), (4, .ref ad), (5, .int (nI (4 * n)))]) : W p l e room_1 s m args below meth c H locs cc9 ss9 Q (F0 m 1483 ls []) := by
  have hx := hC.1.1; have hb := hC.1.2.1; have hml := hC.1.2.2.1; have hts := hC.1.2.2.2.2
  have hown : s.vm.findClass RL = some m.cls := hC.1.2.2.2.1
  have hcR0 : cc9 ≤ room_1.cells := Nat.le_trans (Nat.le_add_right _ _) hcR; have hsR0 : ss9 ≤ room_1.slots := Nat.le_trans (Nat.le_add_right _ _) hsR
  unfold V_case22 at hv
  refine lv_aload_n hx hb dL_law_1483 rfl (lv_at hl 1 rfl) ?_
  refine Z_callGl hC (c_X6_checksum l D cs az a  g _ hv) (cwV 0 hts gL_law_X6_checksum rfl rfl rfl (by decide +kernel) ⟨Nat.le_of_ble_eq_true rfl, Nat.le_of_ble_eq_true rfl⟩) rfl hl rfl (Nat.le_of_ble_eq_true rfl) dL_law_1484 hZ hcR0 hsR0 (fun r1 g2 H locs hv hZ => ?_)
  refine lv_aload_n hx hb dL_law_1487 rfl (lv_at hl 2 rfl) ?_
  refine Z_callMl hC (c_X7_checksum l D cs az bm  mu _ hv) (cwV 0 hts gL_law_X7_checksum rfl rfl rfl (by decide +kernel) ⟨Nat.le_of_ble_eq_true rfl, Nat.le_of_ble_eq_true rfl⟩) rfl hl rfl (Nat.le_of_ble_eq_true rfl) dL_law_1488 hZ hcR0 hsR0 (fun r3 mu4 H locs hv hZ => ?_)
  refine W.lcmp hx hb dL_law_1491 ?_
  refine lv_if_eq (tgt := 1641) hx hb dL_law_1492 (by decide) (fun c => ?_) (fun c => ?_)
  · have hv := hv.1 c
    refine W.widen (k := cc9 + 4) (n := ss9 + 24) (Nat.le_add_right _ _) (Nat.le_add_right _ _) ?_
    exact hK g2 f fd mu4 hv _ _ _ hZ (lv_sub hl [0, 1, 2, 3, 4, 5] rfl)
  · have hv := hv.2 c
    exact False.elim hv
def V_case23 (x1 x2 x3 : Int32) (g : St) (f : Nat → Int64) (fd : Nat → UInt64) (mu : St) (K : St → (Nat → Int64) → (Nat → UInt64) → St → Prop) : Prop := V_L_livingShare  g fd (fun k1 z => V_X7_livingShare  mu (fun r4 mu5 => V_X7_thrown  mu5 (fun r6 mu7 => ((r6 = k1 → ((¬ k1 = 0 → K z.1 f z.2 mu7) ∧ (k1 = 0 → vf_n64 (FP.f2d r4) ∧ ((((Op.cmpValue (FP.dcmp (z.2 0) (FP.f2d r4)) .l) = 0 → K z.1 f z.2 mu7) ∧ (¬ (Op.cmpValue (FP.dcmp (z.2 0) (FP.f2d r4)) .l) = 0 → (((Op.cmpValue (FP.dcmp (z.2 0) (z.2 0)) .l) = 0 → False) ∧ (¬ (Op.cmpValue (FP.dcmp (z.2 0) (z.2 0)) .l) = 0 → ((¬ (Op.cmpValue (FP.fcmp r4 r4) .l) = 0 → K z.1 f z.2 mu7) ∧ ((Op.cmpValue (FP.fcmp r4 r4) .l) = 0 → False)))))))))) ∧ (¬ r6 = k1 → False)))))
set_option maxHeartbeats 4000000 in
set_option maxRecDepth 100000 in
theorem law_case23 {p : Program} {l : Launch} {e : Env} {s : State} {m : MethodId} {args : Array Value} {below : List Frame} {meth : Method} {c : Code} {H : Heap} {locs : List Loc} {Q : State → Prop} {ls : Array Slot} {D : va_G} {cs az a bm : Nat → Nat} {ao ad : Nat} {F : Nat → Prop} {g mu : St} {f : Nat → Int64} {fd : Nat → UInt64} {b L n cc9 ss9 : Nat} {xs : Nat → Int32} {x1 x2 x3 : Int32} (hfl : l.flags = flags0) {K : St → (Nat → Int64) → (Nat → UInt64) → St → Prop} (hv : V_case23 x1 x2 x3 g f fd mu K)
    (hC : uC p m c cL_law 9 s args wsL_law RL D cs az F) (hX : va_X b L xs s s.heap) (hbl : b < s.heap.size) (hbF : ¬ F b) (hin1 : vp_in (nI (4 * n) + 1) L) (hin2 : vp_in (nI (4 * n) + 2) L) (hin3 : vp_in (nI (4 * n) + 3) L) (hx1 : xs (nI (4 * n) + 1).toNatClampNeg = x1) (hx2 : xs (nI (4 * n) + 2).toNatClampNeg = x2) (hx3 : xs (nI (4 * n) + 3).toNatClampNeg = x3)
    (hcR : cc9 + 4 ≤ room_1.cells) (hsR : ss9 + 24 ≤ room_1.slots)
    (hK : ∀ g' f' fd' mu', K g' f' fd' mu' → ∀ (H : Heap) (locs : List Loc) (ls : Array Slot), uZ D cs a bm ao ad F s g' f' fd' mu' H locs → lv_has ls 9 [(0, .ref b), (1, .ref (a 0)), (2, .ref (bm 0)), (3, .ref ao), (4, .ref ad), (5, .int (nI (4 * n)))] → W p l e room_1 s m args below meth c H locs (cc9 + 4) (ss9 + 24) Q (F0 m 1641 ls []))
    (hZ : uZ D cs a bm ao ad F s g f fd mu H locs) (hl : lv_has ls 9 [(0, .ref b), (1, .ref (a 0)), (2, .ref (bm 0)), (3, .ref ao), (4, .ref ad), (5, .int (nI (4 * n)))]) : W p l e room_1 s m args below meth c H locs cc9 ss9 Q (F0 m 1497 ls []) := by
  have hx := hC.1.1; have hb := hC.1.2.1; have hml := hC.1.2.2.1; have hts := hC.1.2.2.2.2
  have hown : s.vm.findClass RL = some m.cls := hC.1.2.2.2.1
  have hcR0 : cc9 ≤ room_1.cells := Nat.le_trans (Nat.le_add_right _ _) hcR; have hsR0 : ss9 ≤ room_1.slots := Nat.le_trans (Nat.le_add_right _ _) hsR
  unfold V_case23 at hv
  refine lv_aload_n hx hb dL_law_1497 rfl (lv_at hl 1 rfl) ?_
  refine lv_aload hx hb dL_law_1498 (lv_at hl 4 rfl) ?_
  refine Z_callD hC (c_L_livingShare l hfl D cs az a ad  g fd _ hv) (vx_cwSW 2 hts gL_law_L_livingShare rfl rfl rfl (by decide +kernel) ⟨Nat.le_of_ble_eq_true rfl, Nat.le_of_ble_eq_true rfl⟩) rfl hl rfl (Nat.le_of_ble_eq_true rfl) dL_law_1500 hZ hcR hsR (fun k1 g2 fd3 H locs hv hZ => ?_)
  refine lv_istore (lv' := [(6, .int k1), (0, .ref b), (1, .ref (a 0)), (2, .ref (bm 0)), (3, .ref ao), (4, .ref ad), (5, .int (nI (4 * n)))]) hx hb dL_law_1503 hl (by decide) rfl (fun ls hl => ?_)
  refine lv_aload_n hx hb dL_law_1505 rfl (lv_at hl 3 rfl) ?_
  refine Z_callMf hC (c_X7_livingShare l D cs az bm  mu _ hv) (cwV 0 hts gL_law_X7_livingShare rfl rfl rfl (by decide +kernel) ⟨Nat.le_of_ble_eq_true rfl, Nat.le_of_ble_eq_true rfl⟩) rfl hl rfl (Nat.le_of_ble_eq_true rfl) dL_law_1506 hZ hcR hsR (fun r4 mu5 H locs hv hZ => ?_)
  refine lv_fstore (lv' := [(7, .float r4), (6, .int k1), (0, .ref b), (1, .ref (a 0)), (2, .ref (bm 0)), (3, .ref ao), (4, .ref ad), (5, .int (nI (4 * n)))]) hx hb dL_law_1509 hl (by decide) rfl (fun ls hl => ?_)
  refine lv_aload_n hx hb dL_law_1511 rfl (lv_at hl 4 rfl) ?_
  refine Z_callMi hC (c_X7_thrown l D cs az bm  mu5 _ hv) (cwV 0 hts gL_law_X7_thrown rfl rfl rfl (by decide +kernel) ⟨Nat.le_of_ble_eq_true rfl, Nat.le_of_ble_eq_true rfl⟩) rfl hl rfl (Nat.le_of_ble_eq_true rfl) dL_law_1512 hZ hcR hsR (fun r6 mu7 H locs hv hZ => ?_)
  refine lv_iload hx hb dL_law_1515 (lv_at hl 1 rfl) ?_
  refine lv_icmp_eq (tgt := 1522) hx hb dL_law_1517 (by decide) (fun c => ?_) (fun c => ?_)
  · have hv := hv.1 c
    refine lv_iload hx hb dL_law_1522 (lv_at hl 1 rfl) ?_
    refine lv_if_ne (tgt := 1560) hx hb dL_law_1524 (by decide) (fun c => ?_) (fun c => ?_)
    · have hv := hv.1 c
      refine lv_goto (tgt := 1641) hx hb dL_law_1560 (by decide) ?_
      exact hK g2 f fd3 mu7 hv _ _ _ hZ (lv_sub hl [2, 3, 4, 5, 6, 7] rfl)
    · have hv := hv.2 c
      refine lv_aload hx hb dL_law_1527 (lv_at hl 6 rfl) ?_
      refine lv_iconst (v := 0) hx hb dL_law_1529 (by decide) ?_
      refine Z_dald hC hZ dL_law_1530 ?_
      refine lv_fload hx hb dL_law_1531 (lv_at hl 0 rfl) ?_
      refine lv_f2d hx hb dL_law_1533 hv.1 ?_
      have hv := hv.2
      refine lv_dcmp hx hb dL_law_1534 ?_
      refine lv_if_eq (tgt := 1560) hx hb dL_law_1535 (by decide) (fun c => ?_) (fun c => ?_)
      · have hv := hv.1 c
        refine lv_goto (tgt := 1641) hx hb dL_law_1560 (by decide) ?_
        exact hK g2 f fd3 mu7 hv _ _ _ hZ (lv_sub hl [2, 3, 4, 5, 6, 7] rfl)
      · have hv := hv.2 c
        refine lv_aload hx hb dL_law_1538 (lv_at hl 6 rfl) ?_
        refine lv_iconst (v := 0) hx hb dL_law_1540 (by decide) ?_
        refine Z_dald hC hZ dL_law_1541 ?_
        refine lv_aload hx hb dL_law_1542 (lv_at hl 6 rfl) ?_
        refine lv_iconst (v := 0) hx hb dL_law_1544 (by decide) ?_
        refine Z_dald hC hZ dL_law_1545 ?_
        refine lv_dcmp hx hb dL_law_1546 ?_
        refine lv_if_eq (tgt := 1558) hx hb dL_law_1547 (by decide) (fun c => ?_) (fun c => ?_)
        · have hv := hv.1 c
          exact False.elim hv
        · have hv := hv.2 c
          refine lv_fload hx hb dL_law_1550 (lv_at hl 0 rfl) ?_
          refine lv_fload hx hb dL_law_1552 (lv_at hl 0 rfl) ?_
          refine lv_fcmp hx hb dL_law_1554 ?_
          refine lv_if_ne (tgt := 1560) hx hb dL_law_1555 (by decide) (fun c => ?_) (fun c => ?_)
          · have hv := hv.1 c
            refine lv_goto (tgt := 1641) hx hb dL_law_1560 (by decide) ?_
            exact hK g2 f fd3 mu7 hv _ _ _ hZ (lv_sub hl [2, 3, 4, 5, 6, 7] rfl)
          · have hv := hv.2 c
            exact False.elim hv
  · have hv := hv.2 c
    exact False.elim hv
def V_case24 (x1 x2 x3 : Int32) (g : St) (f : Nat → Int64) (fd : Nat → UInt64) (mu : St) (K : St → (Nat → Int64) → (Nat → UInt64) → St → Prop) : Prop := V_L_meanAge  g fd (fun k1 z => V_X7_meanAge  mu (fun r4 mu5 => V_X7_thrown  mu5 (fun r6 mu7 => ((r6 = k1 → ((¬ k1 = 0 → K z.1 f z.2 mu7) ∧ (k1 = 0 → (((Op.cmpValue (FP.dcmp (z.2 0) r4) .l) = 0 → K z.1 f z.2 mu7) ∧ (¬ (Op.cmpValue (FP.dcmp (z.2 0) r4) .l) = 0 → (((Op.cmpValue (FP.dcmp (z.2 0) (z.2 0)) .l) = 0 → False) ∧ (¬ (Op.cmpValue (FP.dcmp (z.2 0) (z.2 0)) .l) = 0 → ((¬ (Op.cmpValue (FP.dcmp r4 r4) .l) = 0 → K z.1 f z.2 mu7) ∧ ((Op.cmpValue (FP.dcmp r4 r4) .l) = 0 → False))))))))) ∧ (¬ r6 = k1 → False)))))
set_option maxHeartbeats 4000000 in
set_option maxRecDepth 100000 in
theorem law_case24 {p : Program} {l : Launch} {e : Env} {s : State} {m : MethodId} {args : Array Value} {below : List Frame} {meth : Method} {c : Code} {H : Heap} {locs : List Loc} {Q : State → Prop} {ls : Array Slot} {D : va_G} {cs az a bm : Nat → Nat} {ao ad : Nat} {F : Nat → Prop} {g mu : St} {f : Nat → Int64} {fd : Nat → UInt64} {b L n cc9 ss9 : Nat} {xs : Nat → Int32} {x1 x2 x3 : Int32} (hfl : l.flags = flags0) {K : St → (Nat → Int64) → (Nat → UInt64) → St → Prop} (hv : V_case24 x1 x2 x3 g f fd mu K)
    (hC : uC p m c cL_law 9 s args wsL_law RL D cs az F) (hX : va_X b L xs s s.heap) (hbl : b < s.heap.size) (hbF : ¬ F b) (hin1 : vp_in (nI (4 * n) + 1) L) (hin2 : vp_in (nI (4 * n) + 2) L) (hin3 : vp_in (nI (4 * n) + 3) L) (hx1 : xs (nI (4 * n) + 1).toNatClampNeg = x1) (hx2 : xs (nI (4 * n) + 2).toNatClampNeg = x2) (hx3 : xs (nI (4 * n) + 3).toNatClampNeg = x3)
    (hcR : cc9 + 4 ≤ room_1.cells) (hsR : ss9 + 24 ≤ room_1.slots)
    (hK : ∀ g' f' fd' mu', K g' f' fd' mu' → ∀ (H : Heap) (locs : List Loc) (ls : Array Slot), uZ D cs a bm ao ad F s g' f' fd' mu' H locs → lv_has ls 9 [(0, .ref b), (1, .ref (a 0)), (2, .ref (bm 0)), (3, .ref ao), (4, .ref ad), (5, .int (nI (4 * n)))] → W p l e room_1 s m args below meth c H locs (cc9 + 4) (ss9 + 24) Q (F0 m 1641 ls []))
    (hZ : uZ D cs a bm ao ad F s g f fd mu H locs) (hl : lv_has ls 9 [(0, .ref b), (1, .ref (a 0)), (2, .ref (bm 0)), (3, .ref ao), (4, .ref ad), (5, .int (nI (4 * n)))]) : W p l e room_1 s m args below meth c H locs cc9 ss9 Q (F0 m 1563 ls []) := by
  have hx := hC.1.1; have hb := hC.1.2.1; have hml := hC.1.2.2.1; have hts := hC.1.2.2.2.2
  have hown : s.vm.findClass RL = some m.cls := hC.1.2.2.2.1
  have hcR0 : cc9 ≤ room_1.cells := Nat.le_trans (Nat.le_add_right _ _) hcR; have hsR0 : ss9 ≤ room_1.slots := Nat.le_trans (Nat.le_add_right _ _) hsR
  unfold V_case24 at hv
  refine lv_aload_n hx hb dL_law_1563 rfl (lv_at hl 1 rfl) ?_
  refine lv_aload hx hb dL_law_1564 (lv_at hl 4 rfl) ?_
  refine Z_callD hC (c_L_meanAge l hfl D cs az a ad  g fd _ hv) (vx_cwSW 2 hts gL_law_L_meanAge rfl rfl rfl (by decide +kernel) ⟨Nat.le_of_ble_eq_true rfl, Nat.le_of_ble_eq_true rfl⟩) rfl hl rfl (Nat.le_of_ble_eq_true rfl) dL_law_1566 hZ hcR hsR (fun k1 g2 fd3 H locs hv hZ => ?_)
  refine lv_istore (lv' := [(6, .int k1), (0, .ref b), (1, .ref (a 0)), (2, .ref (bm 0)), (3, .ref ao), (4, .ref ad), (5, .int (nI (4 * n)))]) hx hb dL_law_1569 hl (by decide) rfl (fun ls hl => ?_)
  refine lv_aload_n hx hb dL_law_1571 rfl (lv_at hl 3 rfl) ?_
  refine Z_callMd hC (c_X7_meanAge l D cs az bm  mu _ hv) (cwV 0 hts gL_law_X7_meanAge rfl rfl rfl (by decide +kernel) ⟨Nat.le_of_ble_eq_true rfl, Nat.le_of_ble_eq_true rfl⟩) rfl hl rfl (Nat.le_of_ble_eq_true rfl) dL_law_1572 hZ hcR hsR (fun r4 mu5 H locs hv hZ => ?_)
  refine lv_dstore (lv' := [(7, .double r4), (6, .int k1), (0, .ref b), (1, .ref (a 0)), (2, .ref (bm 0)), (3, .ref ao), (4, .ref ad), (5, .int (nI (4 * n)))]) hx hb dL_law_1575 hl (by decide) rfl (fun ls hl => ?_)
  refine lv_aload_n hx hb dL_law_1577 rfl (lv_at hl 4 rfl) ?_
  refine Z_callMi hC (c_X7_thrown l D cs az bm  mu5 _ hv) (cwV 0 hts gL_law_X7_thrown rfl rfl rfl (by decide +kernel) ⟨Nat.le_of_ble_eq_true rfl, Nat.le_of_ble_eq_true rfl⟩) rfl hl rfl (Nat.le_of_ble_eq_true rfl) dL_law_1578 hZ hcR hsR (fun r6 mu7 H locs hv hZ => ?_)
  refine lv_iload hx hb dL_law_1581 (lv_at hl 1 rfl) ?_
  refine lv_icmp_eq (tgt := 1588) hx hb dL_law_1583 (by decide) (fun c => ?_) (fun c => ?_)
  · have hv := hv.1 c
    refine lv_iload hx hb dL_law_1588 (lv_at hl 1 rfl) ?_
    refine lv_if_ne (tgt := 1625) hx hb dL_law_1590 (by decide) (fun c => ?_) (fun c => ?_)
    · have hv := hv.1 c
      refine lv_goto (tgt := 1641) hx hb dL_law_1625 (by decide) ?_
      exact hK g2 f fd3 mu7 hv _ _ _ hZ (lv_sub hl [2, 3, 4, 5, 6, 7] rfl)
    · have hv := hv.2 c
      refine lv_aload hx hb dL_law_1593 (lv_at hl 6 rfl) ?_
      refine lv_iconst (v := 0) hx hb dL_law_1595 (by decide) ?_
      refine Z_dald hC hZ dL_law_1596 ?_
      refine lv_dload hx hb dL_law_1597 (lv_at hl 0 rfl) ?_
      refine lv_dcmp hx hb dL_law_1599 ?_
      refine lv_if_eq (tgt := 1625) hx hb dL_law_1600 (by decide) (fun c => ?_) (fun c => ?_)
      · have hv := hv.1 c
        refine lv_goto (tgt := 1641) hx hb dL_law_1625 (by decide) ?_
        exact hK g2 f fd3 mu7 hv _ _ _ hZ (lv_sub hl [2, 3, 4, 5, 6, 7] rfl)
      · have hv := hv.2 c
        refine lv_aload hx hb dL_law_1603 (lv_at hl 6 rfl) ?_
        refine lv_iconst (v := 0) hx hb dL_law_1605 (by decide) ?_
        refine Z_dald hC hZ dL_law_1606 ?_
        refine lv_aload hx hb dL_law_1607 (lv_at hl 6 rfl) ?_
        refine lv_iconst (v := 0) hx hb dL_law_1609 (by decide) ?_
        refine Z_dald hC hZ dL_law_1610 ?_
        refine lv_dcmp hx hb dL_law_1611 ?_
        refine lv_if_eq (tgt := 1623) hx hb dL_law_1612 (by decide) (fun c => ?_) (fun c => ?_)
        · have hv := hv.1 c
          exact False.elim hv
        · have hv := hv.2 c
          refine lv_dload hx hb dL_law_1615 (lv_at hl 0 rfl) ?_
          refine lv_dload hx hb dL_law_1617 (lv_at hl 0 rfl) ?_
          refine lv_dcmp hx hb dL_law_1619 ?_
          refine lv_if_ne (tgt := 1625) hx hb dL_law_1620 (by decide) (fun c => ?_) (fun c => ?_)
          · have hv := hv.1 c
            refine lv_goto (tgt := 1641) hx hb dL_law_1625 (by decide) ?_
            exact hK g2 f fd3 mu7 hv _ _ _ hZ (lv_sub hl [2, 3, 4, 5, 6, 7] rfl)
          · have hv := hv.2 c
            exact False.elim hv
  · have hv := hv.2 c
    exact False.elim hv
def V_case25 (x1 x2 x3 : Int32) (g : St) (f : Nat → Int64) (fd : Nat → UInt64) (mu : St) (K : St → (Nat → Int64) → (Nat → UInt64) → St → Prop) : Prop := V_X6_isSound  g (fun r1 g2 => V_X7_isSound  mu (fun r3 mu4 => ((r1 = r3 → K g2 f fd mu4) ∧ (¬ r1 = r3 → False))))
set_option maxHeartbeats 4000000 in
set_option maxRecDepth 100000 in
theorem law_case25 {p : Program} {l : Launch} {e : Env} {s : State} {m : MethodId} {args : Array Value} {below : List Frame} {meth : Method} {c : Code} {H : Heap} {locs : List Loc} {Q : State → Prop} {ls : Array Slot} {D : va_G} {cs az a bm : Nat → Nat} {ao ad : Nat} {F : Nat → Prop} {g mu : St} {f : Nat → Int64} {fd : Nat → UInt64} {b L n cc9 ss9 : Nat} {xs : Nat → Int32} {x1 x2 x3 : Int32} (hfl : l.flags = flags0) {K : St → (Nat → Int64) → (Nat → UInt64) → St → Prop} (hv : V_case25 x1 x2 x3 g f fd mu K)
    (hC : uC p m c cL_law 9 s args wsL_law RL D cs az F) (hX : va_X b L xs s s.heap) (hbl : b < s.heap.size) (hbF : ¬ F b) (hin1 : vp_in (nI (4 * n) + 1) L) (hin2 : vp_in (nI (4 * n) + 2) L) (hin3 : vp_in (nI (4 * n) + 3) L) (hx1 : xs (nI (4 * n) + 1).toNatClampNeg = x1) (hx2 : xs (nI (4 * n) + 2).toNatClampNeg = x2) (hx3 : xs (nI (4 * n) + 3).toNatClampNeg = x3)
    (hcR : cc9 + 4 ≤ room_1.cells) (hsR : ss9 + 24 ≤ room_1.slots)
    (hK : ∀ g' f' fd' mu', K g' f' fd' mu' → ∀ (H : Heap) (locs : List Loc) (ls : Array Slot), uZ D cs a bm ao ad F s g' f' fd' mu' H locs → lv_has ls 9 [(0, .ref b), (1, .ref (a 0)), (2, .ref (bm 0)), (3, .ref ao), (4, .ref ad), (5, .int (nI (4 * n)))] → W p l e room_1 s m args below meth c H locs (cc9 + 4) (ss9 + 24) Q (F0 m 1641 ls []))
    (hZ : uZ D cs a bm ao ad F s g f fd mu H locs) (hl : lv_has ls 9 [(0, .ref b), (1, .ref (a 0)), (2, .ref (bm 0)), (3, .ref ao), (4, .ref ad), (5, .int (nI (4 * n)))]) : W p l e room_1 s m args below meth c H locs cc9 ss9 Q (F0 m 1628 ls []) := by
  have hx := hC.1.1; have hb := hC.1.2.1; have hml := hC.1.2.2.1; have hts := hC.1.2.2.2.2
  have hown : s.vm.findClass RL = some m.cls := hC.1.2.2.2.1
  have hcR0 : cc9 ≤ room_1.cells := Nat.le_trans (Nat.le_add_right _ _) hcR; have hsR0 : ss9 ≤ room_1.slots := Nat.le_trans (Nat.le_add_right _ _) hsR
  unfold V_case25 at hv
  refine lv_aload_n hx hb dL_law_1628 rfl (lv_at hl 1 rfl) ?_
  refine Z_callGi hC (c_X6_isSound l D cs az a  g _ hv) (cwV 0 hts gL_law_X6_isSound rfl rfl rfl (by decide +kernel) ⟨Nat.le_of_ble_eq_true rfl, Nat.le_of_ble_eq_true rfl⟩) rfl hl rfl (Nat.le_of_ble_eq_true rfl) dL_law_1629 hZ hcR0 hsR0 (fun r1 g2 H locs hv hZ => ?_)
  refine lv_aload_n hx hb dL_law_1632 rfl (lv_at hl 2 rfl) ?_
  refine Z_callMi hC (c_X7_isSound l D cs az bm  mu _ hv) (cwV 0 hts gL_law_X7_isSound rfl rfl rfl (by decide +kernel) ⟨Nat.le_of_ble_eq_true rfl, Nat.le_of_ble_eq_true rfl⟩) rfl hl rfl (Nat.le_of_ble_eq_true rfl) dL_law_1633 hZ hcR0 hsR0 (fun r3 mu4 H locs hv hZ => ?_)
  refine lv_icmp_eq (tgt := 1641) hx hb dL_law_1636 (by decide) (fun c => ?_) (fun c => ?_)
  · have hv := hv.1 c
    refine W.widen (k := cc9 + 4) (n := ss9 + 24) (Nat.le_add_right _ _) (Nat.le_add_right _ _) ?_
    exact hK g2 f fd mu4 hv _ _ _ hZ (lv_sub hl [0, 1, 2, 3, 4, 5] rfl)
  · have hv := hv.2 c
    exact False.elim hv
