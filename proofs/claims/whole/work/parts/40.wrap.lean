/-! PART 40: the law's own methods: a call of the class, its exceptions caught -/
theorem va_P_l {D : va_G} {cl : List vw_C} {X Y : va_W} {H : Heap} (h : va_P D cl (X ++ Y) H) : va_P D cl X H := fun k q hk => h k q (by
  have hlt : k < X.length := (List.getElem?_eq_some_iff.mp hk).1
  rw [List.getElem?_append_left hlt]; exact hk)
theorem va_P_r {D : va_G} {cl : List vw_C} {X Y : va_W} {H : Heap} (h : va_P D cl (X ++ Y) H) : va_P D cl Y H := fun k q hk => h (X.length + k) q (by
  rw [List.getElem?_append_right (Nat.le_add_right _ _), Nat.add_sub_cancel_left]; exact hk)
theorem va_D_l {F : Nat → Prop} {X Y : va_W} (h : va_D F (X ++ Y)) : va_D F X := ⟨fun i j p q hp hq e => h.1 i j p q (by rw [List.getElem?_append_left (List.getElem?_eq_some_iff.mp hp).1]; exact hp) (by rw [List.getElem?_append_left (List.getElem?_eq_some_iff.mp hq).1]; exact hq) e, fun k q hk => h.2 k q (by rw [List.getElem?_append_left (List.getElem?_eq_some_iff.mp hk).1]; exact hk)⟩
theorem va_D_r {F : Nat → Prop} {X Y : va_W} (h : va_D F (X ++ Y)) : va_D F Y := by
  have at' : ∀ (k : Nat) (q : Nat × va_E), Y[k]? = some q → (X ++ Y)[X.length + k]? = some q := fun k q hk => by
    rw [List.getElem?_append_right (Nat.le_add_right _ _), Nat.add_sub_cancel_left]; exact hk
  exact ⟨fun i j p q hp hq e => by have := h.1 _ _ p q (at' i p hp) (at' j q hq) e; omega, fun k q hk => h.2 _ q (at' k q hk)⟩
/-- what a callee with the cells X leaves alone -/
theorem keepB {D : va_G} {cl : List vw_C} {F : Nat → Prop} {X Y : va_W} {H H1 : Heap} (hD : va_D F (X ++ Y)) (hY : va_P D cl Y H) (hk : ∀ q : Nat, q < H.size → ¬ va_A X H.size q → H1[q]? = H[q]?) : va_P D cl Y H1 := by
  intro k q hq
  have hlt : q.1 < H.size := (hY k q hq).lt
  refine (hY k q hq).kept (hk q.1 hlt ?_)
  rintro (⟨i, e, hi⟩ | h)
  · have h1 : (X ++ Y)[i]? = some (q.1, e) := by rw [List.getElem?_append_left (List.getElem?_eq_some_iff.mp hi).1]; exact hi
    have h2 : (X ++ Y)[X.length + k]? = some q := by rw [List.getElem?_append_right (Nat.le_add_right _ _), Nat.add_sub_cancel_left]; exact hq
    have h3 := hD.1 i (X.length + k) _ _ h1 h2 rfl
    have h4 : i < X.length := (List.getElem?_eq_some_iff.mp hi).1
    omega
  · omega
def wOut (cs : Nat → ClassId) (ao : Nat) (f : Nat → Int64) : va_W := [(ao, .inl (cs 5, 1, .inr (.inl f)))]
def wOutD (cs : Nat → ClassId) (ad : Nat) (f : Nat → UInt64) : va_W := [(ad, .inl (cs 6, 1, .inr (.inr (.inr (.inl f)))))]
/-- the worlds of the law's methods -/
def wL (cs : Nat → ClassId) (a : Nat → Nat) (ao : Nat) (z : St × (Nat → Int64)) : va_W := gW cs a z.1 ++ wOut cs ao z.2
def wD (cs : Nat → ClassId) (a : Nat → Nat) (ad : Nat) (z : St × (Nat → UInt64)) : va_W := gW cs a z.1 ++ wOutD cs ad z.2
def uPg {σ : Type} (D : va_G) (cs az : Nat → Nat) (Wl : σ → va_W) (sz : Nat) (av : List Value) (z : σ) : Array Value → State → Prop :=
  va_Pc av (fun U => U.heap.size = sz ∧ va_P D vwCl (Wl z) U.heap ∧ va_K D vwCl (gT cs) U ∧ va_D (fun _ => True) (Wl z) ∧ zF az (va_A (Wl z) sz) U U.heap)
theorem uPg_blind {σ : Type} {D : va_G} {cs az : Nat → Nat} {Wl : σ → va_W} {sz : Nat} {av : List Value} {z : σ} : FrameBlind (uPg D cs az Wl sz av z) := by
  intro a U j mk h
  obtain ⟨h0, h1, h2, h3, h4, h5⟩ := h
  exact ⟨h0, h1, h2, va_K.moved (u := U) (U := U.calling j mk a) (Vm.Alike.refl U.vm) h3, h4, zF.same (u := U) (U := U.calling j mk a) rfl h5⟩
/-- a wrapper: it answers a number, always -/
def uLi {σ : Type} (l : Launch) (y : MethodName) (ws : List Cond) (rm : Room) (D : va_G) (cs az : Nat → Nat) (Wl : σ → va_W) (av : List Value) (z : σ) (post : Int32 → σ → Prop) : Prop :=
  ∀ sz, vx_Met l y ws rm (uPg D cs az Wl sz av z) (va_Qi post (fun z' t => va_P D vwCl (Wl z') t.heap) (va_A (Wl z) sz)) (vx_X (fun _ : St => False) (fun _ _ _ => True) (va_A (Wl z) sz)) 4 24 (va_A (Wl z) sz)
section WR
variable {p : Program} {l : Launch} {e : Env} {R : Room} {s : State} {m : MethodId} {args : Array Value} {below : List Frame} {meth : Method} {c : Code} {H : Heap} {locs : List Loc} {cells slots mc ms : Nat} {Q : State → Prop}
variable {pc : Nat} {ls : Array Slot} {rest st0 : List Value} {cc : ByteArray} {nL : Nat} {Ts : List Cond} {own : String} {D : va_G} {cs a az : Nat → Nat} {F : Nat → Prop} {g : St}
theorem u_ofL9 {σ : Type} {y : MethodName} {ws ws' : List Cond} {rm : Room} {Wl : σ → va_W} {av : List Value} {z : σ} {post : Int32 → σ → Prop} {maxL : Nat} {hh : List (Nat × Nat × Nat × Nat)} (hy : plainName y.cls = true) (hw : ws = Cond.codeWith y cc maxL (some .int) hh :: ws') (hav : (lg_sl av).length ≤ maxL)
    (body : ∀ p e s m args below meth c F ls, uC p m c cc maxL s args ws y.cls D cs az F → c.exceptionTable.toList = tableOf hh → meth.sig.returnType = some .int → meth.locks = false → lv_has ls maxL (lv_args 0 av) → va_P D vwCl (Wl z) s.heap → va_D F (Wl z) → va_S F s.heap s.heap [] →
      W p l e rm s m args below meth c s.heap [] 0 0 (vx_MQ below (va_Qi post (fun z' t => va_P D vwCl (Wl z') t.heap) F) (vx_X (fun _ : St => False) (fun _ _ _ => True) F) args s 4 24 F) (F0 m 0 ls [])) : uLi l y ws rm D cs az Wl av z post := by
  intro sz
  refine vx_ofWH (cc := cc) (maxL := maxL) (ret := some .int) hy hw ?_
  intro p e s m args below meth c s₁ B hml hv
  obtain ⟨h0, h1, h2, h3, h4, h5⟩ := hv
  subst h1
  have hts := atoms_spec (ws := ws) B.pre
  have htab := vx_table (x := y) B (hts _ (by rw [hw]; exact List.mem_cons_self))
  rw [h0, lg_entry_eq]
  rw [h0] at hts
  exact body p e s m av.toArray below meth c _ _ ⟨⟨B.exec, B.bytes, hml, findClass_of_methodNamed B.named, hts⟩, h3, fun q h => Or.inr h, h5⟩ htab B.returns B.notSynchronized (lv_entry av hav) h2 h4.self va_S.rf
theorem L_iret {σ : Type} {Wl : σ → va_W} {z : σ} {post : Int32 → σ → Prop} {v : Int32} {XC : String → State → State → Prop} (hC : uC p m c cc nL s args Ts own D cs az F) (hr : meth.sig.returnType = some .int) (hk : meth.locks = false) (hP : va_P D vwCl (Wl z) H) (hS : va_S F s.heap H locs) (hp : post v z) (hdg : decode cc pc = .ok (.ireturn, 1)) (h1 : cells ≤ 4) (h2 : slots ≤ 24) :
    W p l e R s m args below meth c H locs cells slots (vx_MQ below (va_Qi post (fun z' t => va_P D vwCl (Wl z') t.heap) F) XC args s 4 24 F) (F0 m pc ls [.int v]) :=
  vx_ret (W.widen h1 h2 (W.iret hC.1.1 hC.1.2.1 hr (fun t ht _ => ⟨⟨v, z, rfl, hp, by show va_P D vwCl (Wl z) t.heap; rw [ht]; exact hP⟩, hS.F ht⟩) hS.2.2 hdg hk))
variable {y : MethodName} {bytes : ByteArray} {maxL k index : Nat} {ws : List Cond} {rm : Room} {As : List Value} {rt : FieldType} {lv : List (Nat × Value)} {X Y : va_W} {px : String → St → Prop} {fs : (Nat → Int32) → List Value}
theorem uP_two {U : State} {av : List Value} {g : St} (hC : uC p m c cc nL s args Ts own D cs az F) (hP : va_P D vwCl (gW cs a g) H) (hD : va_D F (gW cs a g ++ Y)) (hS : va_S F s.heap H locs) (hU : U.heap = H) (hW : s.WarmedH U.vm) : uP D cs az (gW cs a) H.size av g av.toArray U :=
  uP_at hC.2.1 hC.2.2.1 hC.2.2.2 ⟨hP, va_D_l hD, hS⟩ hU hW
/-- the class's method that may throw, called beside the cells Y -/
theorem L_callTi {post : Int32 → St → Prop} (hC : uC p m c cc nL s args Ts own D cs az F) (hM : uTi l y ws rm D cs az (gW cs a) (.ref (a 0) :: As) g 4 24 post px) (cw : CallW R s args own RX6 index y bytes maxL (some rt) ws rm 4 24 k)
    (hn : As.length = k) (hl : lv_has ls nL lv) (hst : st0 = As.reverse ++ .ref (a 0) :: rest) (hW : (rest.map fun v => v.category).sum ≤ 8) (hdg : decode cc pc = .ok (.invokevirtual index, 3)) (hP : va_P D vwCl (gW cs a g ++ Y) H) (hD : va_D F (gW cs a g ++ Y)) (hS : va_S F s.heap H locs) (hc : cells + 4 ≤ R.cells) (hs : slots + 24 ≤ R.slots)
    (kx : ∀ (E : String) (ce : Cell) (q9 : Addr) (g' : St) (H1 : Heap) (l1 : List Loc), px E g' → va_P D vwCl (gW cs a g' ++ Y) H1 → va_D F (gW cs a g' ++ Y) → va_S F s.heap H1 l1 → H1[q9]? = some ce → ce.vm = .none → s.vm.findClass E = some ce.cls → vx_W p l e R s m args below meth c H1 l1 (cells + 4) (slots + 24) Q (F0 m pc ls rest) q9)
    (kk : ∀ (r : Int32) (g' : St) (H1 : Heap) (l1 : List Loc), post r g' → va_P D vwCl (gW cs a g' ++ Y) H1 → va_D F (gW cs a g' ++ Y) → va_S F s.heap H1 l1 → W p l e R s m args below meth c H1 l1 (cells + 4) (slots + 24) Q (F0 m (pc + 3) ls (.int r :: rest))) : W p l e R s m args below meth c H locs cells slots Q (F0 m pc ls st0) := by
  subst hst
  have hDg : ∀ g' : St, va_D F (gW cs a g' ++ Y) := fun g' => va_D_fst hD (by rw [List.map_append, List.map_append, uW_adr])
  have hF : ∀ q, va_A (gW cs a g) H.size q → F q := uE_free hC.2.2.1 ⟨va_P_l hP, va_D_l hD, hS⟩
  have join : ∀ {g' : St} {t : State} {H1 : Heap}, t.heap = H1 → uB D (gW cs a) g' t → (∀ q : Nat, q < H.size → ¬ va_A (gW cs a g) H.size q → H1[q]? = H[q]?) → va_P D vwCl (gW cs a g' ++ Y) H1 := fun ht hB hk1 => va_P.app (by rw [← ht]; exact hB) (keepB hD (va_P_r hP) hk1)
  exact vx_calli (vx_runV (As := As) (rest := rest) hC.1 (hM H.size) cw ⟨uP_blind, va_recv hC.2.1 (va_P_l hP) (ci := 8) rfl (uW_obj (f_game (cs := cs) (a := a)).1 ((f_game (cs := cs) (a := a)).2 _)), fun U hU hW => uP_two hC (va_P_l hP) hD hS hU hW⟩ rfl hn hl.1 rfl (lv_room hW) hdg ⟨hc, hs⟩) hS (fun q _ h => hF q h) hF (fun q _ h => hF q h)
    (fun E ce q9 u t H1 l1 ht _ _ hB _ hk1 hS1 e1 e2 e3 => kx E ce q9 u H1 l1 hB.1 (join ht hB.2 hk1) (hDg u) hS1 e1 e2 e3)
    (fun r u t H1 l1 ht _ hp hB _ hk1 hS1 => kk r u H1 l1 hp (join ht hB hk1) (hDg u) hS1)
theorem L_callTf {post : UInt32 → St → Prop} (hC : uC p m c cc nL s args Ts own D cs az F) (hM : uTf l y ws rm D cs az (gW cs a) (.ref (a 0) :: As) g 4 24 post px) (cw : CallW R s args own RX6 index y bytes maxL (some rt) ws rm 4 24 k)
    (hn : As.length = k) (hl : lv_has ls nL lv) (hst : st0 = As.reverse ++ .ref (a 0) :: rest) (hW : (rest.map fun v => v.category).sum ≤ 8) (hdg : decode cc pc = .ok (.invokevirtual index, 3)) (hP : va_P D vwCl (gW cs a g ++ Y) H) (hD : va_D F (gW cs a g ++ Y)) (hS : va_S F s.heap H locs) (hc : cells + 4 ≤ R.cells) (hs : slots + 24 ≤ R.slots)
    (kx : ∀ (E : String) (ce : Cell) (q9 : Addr) (g' : St) (H1 : Heap) (l1 : List Loc), px E g' → va_P D vwCl (gW cs a g' ++ Y) H1 → va_D F (gW cs a g' ++ Y) → va_S F s.heap H1 l1 → H1[q9]? = some ce → ce.vm = .none → s.vm.findClass E = some ce.cls → vx_W p l e R s m args below meth c H1 l1 (cells + 4) (slots + 24) Q (F0 m pc ls rest) q9)
    (kk : ∀ (r : UInt32) (g' : St) (H1 : Heap) (l1 : List Loc), post r g' → va_P D vwCl (gW cs a g' ++ Y) H1 → va_D F (gW cs a g' ++ Y) → va_S F s.heap H1 l1 → W p l e R s m args below meth c H1 l1 (cells + 4) (slots + 24) Q (F0 m (pc + 3) ls (.float r :: rest))) : W p l e R s m args below meth c H locs cells slots Q (F0 m pc ls st0) := by
  subst hst
  have hDg : ∀ g' : St, va_D F (gW cs a g' ++ Y) := fun g' => va_D_fst hD (by rw [List.map_append, List.map_append, uW_adr])
  have hF : ∀ q, va_A (gW cs a g) H.size q → F q := uE_free hC.2.2.1 ⟨va_P_l hP, va_D_l hD, hS⟩
  have join : ∀ {g' : St} {t : State} {H1 : Heap}, t.heap = H1 → uB D (gW cs a) g' t → (∀ q : Nat, q < H.size → ¬ va_A (gW cs a g) H.size q → H1[q]? = H[q]?) → va_P D vwCl (gW cs a g' ++ Y) H1 := fun ht hB hk1 => va_P.app (by rw [← ht]; exact hB) (keepB hD (va_P_r hP) hk1)
  exact vx_callf (vx_runV (As := As) (rest := rest) hC.1 (hM H.size) cw ⟨uP_blind, va_recv hC.2.1 (va_P_l hP) (ci := 8) rfl (uW_obj (f_game (cs := cs) (a := a)).1 ((f_game (cs := cs) (a := a)).2 _)), fun U hU hW => uP_two hC (va_P_l hP) hD hS hU hW⟩ rfl hn hl.1 rfl (lv_room hW) hdg ⟨hc, hs⟩) hS (fun q _ h => hF q h) hF (fun q _ h => hF q h)
    (fun E ce q9 u t H1 l1 ht _ _ hB _ hk1 hS1 e1 e2 e3 => kx E ce q9 u H1 l1 hB.1 (join ht hB.2 hk1) (hDg u) hS1 e1 e2 e3)
    (fun r u t H1 l1 ht _ hp hB _ hk1 hS1 => kk r u H1 l1 hp (join ht hB hk1) (hDg u) hS1)
theorem L_callTd {post : UInt64 → St → Prop} (hC : uC p m c cc nL s args Ts own D cs az F) (hM : uTd l y ws rm D cs az (gW cs a) (.ref (a 0) :: As) g 4 24 post px) (cw : CallW R s args own RX6 index y bytes maxL (some rt) ws rm 4 24 k)
    (hn : As.length = k) (hl : lv_has ls nL lv) (hst : st0 = As.reverse ++ .ref (a 0) :: rest) (hW : (rest.map fun v => v.category).sum ≤ 8) (hdg : decode cc pc = .ok (.invokevirtual index, 3)) (hP : va_P D vwCl (gW cs a g ++ Y) H) (hD : va_D F (gW cs a g ++ Y)) (hS : va_S F s.heap H locs) (hc : cells + 4 ≤ R.cells) (hs : slots + 24 ≤ R.slots)
    (kx : ∀ (E : String) (ce : Cell) (q9 : Addr) (g' : St) (H1 : Heap) (l1 : List Loc), px E g' → va_P D vwCl (gW cs a g' ++ Y) H1 → va_D F (gW cs a g' ++ Y) → va_S F s.heap H1 l1 → H1[q9]? = some ce → ce.vm = .none → s.vm.findClass E = some ce.cls → vx_W p l e R s m args below meth c H1 l1 (cells + 4) (slots + 24) Q (F0 m pc ls rest) q9)
    (kk : ∀ (r : UInt64) (g' : St) (H1 : Heap) (l1 : List Loc), post r g' → va_P D vwCl (gW cs a g' ++ Y) H1 → va_D F (gW cs a g' ++ Y) → va_S F s.heap H1 l1 → W p l e R s m args below meth c H1 l1 (cells + 4) (slots + 24) Q (F0 m (pc + 3) ls (.double r :: rest))) : W p l e R s m args below meth c H locs cells slots Q (F0 m pc ls st0) := by
  subst hst
  have hDg : ∀ g' : St, va_D F (gW cs a g' ++ Y) := fun g' => va_D_fst hD (by rw [List.map_append, List.map_append, uW_adr])
  have hF : ∀ q, va_A (gW cs a g) H.size q → F q := uE_free hC.2.2.1 ⟨va_P_l hP, va_D_l hD, hS⟩
  have join : ∀ {g' : St} {t : State} {H1 : Heap}, t.heap = H1 → uB D (gW cs a) g' t → (∀ q : Nat, q < H.size → ¬ va_A (gW cs a g) H.size q → H1[q]? = H[q]?) → va_P D vwCl (gW cs a g' ++ Y) H1 := fun ht hB hk1 => va_P.app (by rw [← ht]; exact hB) (keepB hD (va_P_r hP) hk1)
  exact vx_calld (vx_runV (As := As) (rest := rest) hC.1 (hM H.size) cw ⟨uP_blind, va_recv hC.2.1 (va_P_l hP) (ci := 8) rfl (uW_obj (f_game (cs := cs) (a := a)).1 ((f_game (cs := cs) (a := a)).2 _)), fun U hU hW => uP_two hC (va_P_l hP) hD hS hU hW⟩ rfl hn hl.1 rfl (lv_room hW) hdg ⟨hc, hs⟩) hS (fun q _ h => hF q h) hF (fun q _ h => hF q h)
    (fun E ce q9 u t H1 l1 ht _ _ hB _ hk1 hS1 e1 e2 e3 => kx E ce q9 u H1 l1 hB.1 (join ht hB.2 hk1) (hDg u) hS1 e1 e2 e3)
    (fun r u t H1 l1 ht _ hp hB _ hk1 hS1 => kk r u H1 l1 hp (join ht hB hk1) (hDg u) hS1)
theorem wL_at {ao : Nat} {f : Nat → Int64} : (gW cs a g ++ wOut cs ao f)[52]? = some (ao, .inl (cs 5, 1, .inr (.inl f))) := by
  rw [List.getElem?_append_right (by simp [uW])]
  simp [uW, wOut]
theorem wD_at {ad : Nat} {f : Nat → UInt64} : (gW cs a g ++ wOutD cs ad f)[52]? = some (ad, .inl (cs 6, 1, .inr (.inr (.inr (.inl f))))) := by
  rw [List.getElem?_append_right (by simp [uW])]
  simp [uW, wOutD]
theorem wL_set {ao : Nat} {f f' : Nat → Int64} : (gW cs a g ++ wOut cs ao f).set 52 (ao, .inl (cs 5, 1, .inr (.inl f'))) = gW cs a g ++ wOut cs ao f' := by
  rw [List.set_append_right _ _ (by simp [uW])]
  simp [uW, wOut]
theorem wD_set {ad : Nat} {f f' : Nat → UInt64} : (gW cs a g ++ wOutD cs ad f).set 52 (ad, .inl (cs 6, 1, .inr (.inr (.inr (.inl f'))))) = gW cs a g ++ wOutD cs ad f' := by
  rw [List.set_append_right _ _ (by simp [uW])]
  simp [uW, wOutD]
theorem L_last (hC : uC p m c cc nL s args Ts own D cs az F) {ao : Nat} {f : Nat → Int64} {x : Int64} (hP : va_P D vwCl (gW cs a g ++ wOut cs ao f) H) (hD : va_D F (gW cs a g ++ wOut cs ao f)) (hS : va_S F s.heap H locs) (hdg : decode cc pc = .ok (.lastore, 1))
    (kk : ∀ (H : Heap) (locs : List Loc), va_P D vwCl (gW cs a g ++ wOut cs ao (vp_updL f 0 x)) H → va_D F (gW cs a g ++ wOut cs ao (vp_updL f 0 x)) → va_S F s.heap H locs → W p l e R s m args below meth c H locs cells slots Q (F0 m (pc + 1) ls rest)) : W p l e R s m args below meth c H locs cells slots Q (F0 m pc ls (.long x :: .int 0 :: .ref ao :: rest)) :=
  va_last hC.1.1 hC.1.2.1 hC.2.1 hP hD hS 52 5 wL_at rfl (by unfold vp_in; decide) hdg (fun H1 l1 h1 h2 h3 => kk H1 l1 (by rw [wL_set] at h1; exact h1) (by rw [wL_set] at h2; exact h2) h3)
theorem L_dast (hC : uC p m c cc nL s args Ts own D cs az F) {ad : Nat} {f : Nat → UInt64} {x : UInt64} (hP : va_P D vwCl (gW cs a g ++ wOutD cs ad f) H) (hD : va_D F (gW cs a g ++ wOutD cs ad f)) (hS : va_S F s.heap H locs) (hdg : decode cc pc = .ok (.dastore, 1))
    (kk : ∀ (H : Heap) (locs : List Loc), va_P D vwCl (gW cs a g ++ wOutD cs ad (vf_upd f 0 x)) H → va_D F (gW cs a g ++ wOutD cs ad (vf_upd f 0 x)) → va_S F s.heap H locs → W p l e R s m args below meth c H locs cells slots Q (F0 m (pc + 1) ls rest)) : W p l e R s m args below meth c H locs cells slots Q (F0 m pc ls (.double x :: .int 0 :: .ref ad :: rest)) :=
  va_dast hC.1.1 hC.1.2.1 hC.2.1 hP hD hS 52 6 wD_at rfl (by unfold vp_in; decide) hdg (fun H1 l1 h1 h2 h3 => kk H1 l1 (by rw [wD_set] at h1; exact h1) (by rw [wD_set] at h2; exact h2) h3)
end WR
