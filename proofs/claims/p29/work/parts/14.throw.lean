/-! PART 14: methods that return or throw -/
/-- what holds behind a throw of E: px of E and of the state -/
def uX9 (D : va_G) (Wl : St → va_W) (px : String → St → Prop) (F : Nat → Prop) : String → State → State → Prop := vx_X (fun _ : St => True) (fun E u t => px E u ∧ uB D Wl u t) F
def uTi (l : Launch) (y : MethodName) (ws : List Cond) (rm : Room) (D : va_G) (cs az : Nat → Nat) (Wl : St → va_W) (av : List Value) (g : St) (mc ms : Nat) (post : Int32 → St → Prop) (px : String → St → Prop) : Prop :=
  ∀ sz, vx_Met l y ws rm (uP D cs az Wl sz av g) (va_Qi post (uB D Wl) (va_A (Wl g) sz)) (uX9 D Wl px (va_A (Wl g) sz)) mc ms (va_A (Wl g) sz)
def uTv (l : Launch) (y : MethodName) (ws : List Cond) (rm : Room) (D : va_G) (cs az : Nat → Nat) (Wl : St → va_W) (av : List Value) (g : St) (mc ms : Nat) (post : St → Prop) (px : String → St → Prop) : Prop :=
  ∀ sz, vx_Met l y ws rm (uP D cs az Wl sz av g) (va_Qv post (uB D Wl) (va_A (Wl g) sz)) (uX9 D Wl px (va_A (Wl g) sz)) mc ms (va_A (Wl g) sz)
def uTf (l : Launch) (y : MethodName) (ws : List Cond) (rm : Room) (D : va_G) (cs az : Nat → Nat) (Wl : St → va_W) (av : List Value) (g : St) (mc ms : Nat) (post : UInt32 → St → Prop) (px : String → St → Prop) : Prop :=
  ∀ sz, vx_Met l y ws rm (uP D cs az Wl sz av g) (va_Qf post (uB D Wl) (va_A (Wl g) sz)) (uX9 D Wl px (va_A (Wl g) sz)) mc ms (va_A (Wl g) sz)
def uTd (l : Launch) (y : MethodName) (ws : List Cond) (rm : Room) (D : va_G) (cs az : Nat → Nat) (Wl : St → va_W) (av : List Value) (g : St) (mc ms : Nat) (post : UInt64 → St → Prop) (px : String → St → Prop) : Prop :=
  ∀ sz, vx_Met l y ws rm (uP D cs az Wl sz av g) (va_Qd post (uB D Wl) (va_A (Wl g) sz)) (uX9 D Wl px (va_A (Wl g) sz)) mc ms (va_A (Wl g) sz)
section GT
variable {l : Launch} {D : va_G} {cs a az : Nat → Nat} {n : Nat} {A : Nat → Option (Nat × Nat)} {O : (Nat → Int32) → Nat → va_E} {g : St} {y : MethodName} {ws ws' : List Cond} {rm : Room} {maxL mc ms : Nat} {av : List Value} {cc : ByteArray} {px : String → St → Prop}
theorem u_ofTi {post : Int32 → St → Prop} {rt : FieldType} (hy : plainName y.cls = true) (hw : ws = Cond.code y cc maxL (some rt) :: ws') (hav : (lg_sl av).length ≤ maxL)
    (body : ∀ p e s m args below meth c F ls, uC p m c cc maxL s args ws y.cls D cs az F → (∀ x ∈ c.exceptionTable.toList, False) → meth.sig.returnType = some rt → meth.locks = false → lv_has ls maxL (lv_args 0 av) → uE D n A O cs a F s g s.heap [] →
      W p l e rm s m args below meth c s.heap [] 0 0 (vx_MQ below (va_Qi post (uB D (uW n A O cs a)) F) (uX9 D (uW n A O cs a) px F) args s mc ms F) (F0 m 0 ls [])) : uTi l y ws rm D cs az (uW n A O cs a) av g mc ms post px := by
  intro sz
  refine vx_ofW (cc := cc) (maxL := maxL) (ret := some rt) hy hw ?_
  intro p e s m args below meth c s₁ B hml hx hv
  obtain ⟨h0, h1, hC, hE, hr, hk⟩ := u_pre B hml hv
  subst h1
  rw [h0, lg_entry_eq]
  rw [h0] at hC
  exact body p e s m av.toArray below meth c _ _ hC hx hr hk (lv_entry av hav) hE
theorem u_ofTv {post : St → Prop} (hy : plainName y.cls = true) (hw : ws = Cond.code y cc maxL none :: ws') (hav : (lg_sl av).length ≤ maxL)
    (body : ∀ p e s m args below meth c F ls, uC p m c cc maxL s args ws y.cls D cs az F → (∀ x ∈ c.exceptionTable.toList, False) → meth.sig.returnType = none → meth.locks = false → lv_has ls maxL (lv_args 0 av) → uE D n A O cs a F s g s.heap [] →
      W p l e rm s m args below meth c s.heap [] 0 0 (vx_MQ below (va_Qv post (uB D (uW n A O cs a)) F) (uX9 D (uW n A O cs a) px F) args s mc ms F) (F0 m 0 ls [])) : uTv l y ws rm D cs az (uW n A O cs a) av g mc ms post px := by
  intro sz
  refine vx_ofW (cc := cc) (maxL := maxL) (ret := none) hy hw ?_
  intro p e s m args below meth c s₁ B hml hx hv
  obtain ⟨h0, h1, hC, hE, hr, hk⟩ := u_pre B hml hv
  subst h1
  rw [h0, lg_entry_eq]
  rw [h0] at hC
  exact body p e s m av.toArray below meth c _ _ hC hx hr hk (lv_entry av hav) hE
theorem u_ofTf {post : UInt32 → St → Prop} {rt : FieldType} (hy : plainName y.cls = true) (hw : ws = Cond.code y cc maxL (some rt) :: ws') (hav : (lg_sl av).length ≤ maxL)
    (body : ∀ p e s m args below meth c F ls, uC p m c cc maxL s args ws y.cls D cs az F → (∀ x ∈ c.exceptionTable.toList, False) → meth.sig.returnType = some rt → meth.locks = false → lv_has ls maxL (lv_args 0 av) → uE D n A O cs a F s g s.heap [] →
      W p l e rm s m args below meth c s.heap [] 0 0 (vx_MQ below (va_Qf post (uB D (uW n A O cs a)) F) (uX9 D (uW n A O cs a) px F) args s mc ms F) (F0 m 0 ls [])) : uTf l y ws rm D cs az (uW n A O cs a) av g mc ms post px := by
  intro sz
  refine vx_ofW (cc := cc) (maxL := maxL) (ret := some rt) hy hw ?_
  intro p e s m args below meth c s₁ B hml hx hv
  obtain ⟨h0, h1, hC, hE, hr, hk⟩ := u_pre B hml hv
  subst h1
  rw [h0, lg_entry_eq]
  rw [h0] at hC
  exact body p e s m av.toArray below meth c _ _ hC hx hr hk (lv_entry av hav) hE
theorem u_ofTd {post : UInt64 → St → Prop} {rt : FieldType} (hy : plainName y.cls = true) (hw : ws = Cond.code y cc maxL (some rt) :: ws') (hav : (lg_sl av).length ≤ maxL)
    (body : ∀ p e s m args below meth c F ls, uC p m c cc maxL s args ws y.cls D cs az F → (∀ x ∈ c.exceptionTable.toList, False) → meth.sig.returnType = some rt → meth.locks = false → lv_has ls maxL (lv_args 0 av) → uE D n A O cs a F s g s.heap [] →
      W p l e rm s m args below meth c s.heap [] 0 0 (vx_MQ below (va_Qd post (uB D (uW n A O cs a)) F) (uX9 D (uW n A O cs a) px F) args s mc ms F) (F0 m 0 ls [])) : uTd l y ws rm D cs az (uW n A O cs a) av g mc ms post px := by
  intro sz
  refine vx_ofW (cc := cc) (maxL := maxL) (ret := some rt) hy hw ?_
  intro p e s m args below meth c s₁ B hml hx hv
  obtain ⟨h0, h1, hC, hE, hr, hk⟩ := u_pre B hml hv
  subst h1
  rw [h0, lg_entry_eq]
  rw [h0] at hC
  exact body p e s m av.toArray below meth c _ _ hC hx hr hk (lv_entry av hav) hE
end GT
theorem excW_on : ∀ w ∈ excW, w.onTables = true := by decide +kernel
section GTR
variable {p : Program} {l : Launch} {e : Env} {R : Room} {s : State} {m : MethodId} {args : Array Value} {below : List Frame} {meth : Method} {c : Code} {H : Heap} {locs : List Loc} {cells slots mc ms : Nat} {Q : State → Prop}
variable {pc : Nat} {ls : Array Slot} {rest st0 : List Value} {cc : ByteArray} {nL : Nat} {Ts : List Cond} {own : String} {D : va_G} {cs a az : Nat → Nat} {F : Nat → Prop} {n : Nat} {A : Nat → Option (Nat × Nat)} {O : (Nat → Int32) → Nat → va_E} {g : St}
variable {XC : String → State → State → Prop} {Qc : Array Value → State → Outcome → State → Prop} {px : String → St → Prop}
theorem T_zret {post : Int32 → St → Prop} {v : Int32} {ty : FieldType} (hC : uC p m c cc nL s args Ts own D cs az F) (hr : meth.sig.returnType = some ty) (hk : meth.locks = false) (hE : uE D n A O cs a F s g H locs) (hn : narrow ty (.int v) = .int v) (hp : post v g) (hdg : decode cc pc = .ok (.ireturn, 1)) (h1 : cells ≤ mc) (h2 : slots ≤ ms) :
    W p l e R s m args below meth c H locs cells slots (vx_MQ below (va_Qi post (uB D (uW n A O cs a)) F) XC args s mc ms F) (F0 m pc ls [.int v]) :=
  vx_ret (W.widen h1 h2 (W.zret hC.1.1 hC.1.2.1 hr hn (fun t ht _ => ⟨⟨v, g, rfl, hp, by unfold uB; rw [ht]; exact hE.1⟩, hE.2.2.F ht⟩) hE.2.2.2.2 hdg hk))
theorem T_vret {post : St → Prop} (hC : uC p m c cc nL s args Ts own D cs az F) (hr : meth.sig.returnType = none) (hk : meth.locks = false) (hE : uE D n A O cs a F s g H locs) (hp : post g) (hdg : decode cc pc = .ok (.return_, 1)) (h1 : cells ≤ mc) (h2 : slots ≤ ms) :
    W p l e R s m args below meth c H locs cells slots (vx_MQ below (va_Qv post (uB D (uW n A O cs a)) F) XC args s mc ms F) (F0 m pc ls []) :=
  vx_ret (W.widen h1 h2 (W.vret hC.1.1 hC.1.2.1 hr (fun t ht _ => ⟨⟨g, rfl, hp, by unfold uB; rw [ht]; exact hE.1⟩, hE.2.2.F ht⟩) hE.2.2.2.2 hdg hk))
theorem T_fret {post : UInt32 → St → Prop} {v : UInt32} (hC : uC p m c cc nL s args Ts own D cs az F) (hr : meth.sig.returnType = some .float) (hk : meth.locks = false) (hE : uE D n A O cs a F s g H locs) (hp : post v g) (hdg : decode cc pc = .ok (.freturn, 1)) (h1 : cells ≤ mc) (h2 : slots ≤ ms) :
    W p l e R s m args below meth c H locs cells slots (vx_MQ below (va_Qf post (uB D (uW n A O cs a)) F) XC args s mc ms F) (F0 m pc ls [.float v]) :=
  vx_ret (W.widen h1 h2 (W.fret hC.1.1 hC.1.2.1 hr (fun t ht _ => ⟨⟨v, g, rfl, hp, by unfold uB; rw [ht]; exact hE.1⟩, hE.2.2.F ht⟩) hE.2.2.2.2 hdg hk))
theorem T_dret {post : UInt64 → St → Prop} {v : UInt64} (hC : uC p m c cc nL s args Ts own D cs az F) (hr : meth.sig.returnType = some .double) (hk : meth.locks = false) (hE : uE D n A O cs a F s g H locs) (hp : post v g) (hdg : decode cc pc = .ok (.dreturn, 1)) (h1 : cells ≤ mc) (h2 : slots ≤ ms) :
    W p l e R s m args below meth c H locs cells slots (vx_MQ below (va_Qd post (uB D (uW n A O cs a)) F) XC args s mc ms F) (F0 m pc ls [.double v]) :=
  vx_ret (W.widen h1 h2 (W.dret hC.1.1 hC.1.2.1 hr (fun t ht _ => ⟨⟨v, g, rfl, hp, by unfold uB; rw [ht]; exact hE.1⟩, hE.2.2.F ht⟩) hE.2.2.2.2 hdg hk))
theorem uE_grow {H1 : Heap} (hE : uE D n A O cs a F s g H locs) (hz : H.size ≤ H1.size) (hq : ∀ q : Nat, q < H.size → H1[q]? = H[q]?) : va_P D vwCl (uW n A O cs a g) H1 ∧ s.heap.size ≤ H1.size ∧ ∀ q : Nat, q < s.heap.size → ¬ F q → H1[q]? = s.heap[q]? :=
  ⟨va_P.kept hE.1 (fun k q hk => hq q.1 (hE.1 k q hk).lt), Nat.le_trans hE.2.2.1 hz, fun q h1 h2 => (hq q (Nat.lt_of_lt_of_le h1 hE.2.2.1)).trans (hE.2.2.2.1 q h1 h2)⟩
/-- new E(text), thrown: the state as it is -/
theorem T_throw (hl : l.flags = flags0) (hC : uC p m c cc nL s args Ts RX6 D cs az F) (hx0 : ∀ x ∈ c.exceptionTable.toList, False) (hk : meth.locks = false) (hE : uE D n A O cs a F s g H locs) {lv : List (Nat × Value)} (hls : lv_has ls nL lv) {cls text : String} {ik is ic : Nat}
    (hfit : Bundle.fit cls = true) (hcl : (Cond.classLink RX6 ik cls).before args s = true) (hini : (Cond.initialized cls).before args s = true) (hstr : (is, text) ∈ strW)
    (hat : ∀ w ∈ (vx_atS RX6 ic cls ["java/lang/RuntimeException", "java/lang/Exception"]).filter goodWord, w ∈ Ts) (hat2 : ∀ w ∈ (vx_atS RX6 ic cls ["java/lang/RuntimeException", "java/lang/Exception"]).filter (fun w => !goodWord w), w ∈ excW)
    (hgood : ∀ w ∈ Cond.classLink RX6 ik cls :: Cond.initialized cls :: vx_atS RX6 ic cls ["java/lang/RuntimeException", "java/lang/Exception"], vx_ot w = true)
    (d0 : decode cc pc = .ok (.new ik, 3)) (d3 : decode cc (pc + 3) = .ok (.dup, 1)) (d4 : decode cc (pc + 4) = .ok (.ldc is, 2)) (d6 : decode cc (pc + 6) = .ok (.invokespecial ic, 3)) (d9 : decode cc (pc + 9) = .ok (.athrow, 1))
    (hRf : 5 < R.frames) (hRl : (rest.map fun v => v.category).sum + 82 ≤ R.locals) (hRc : cells + 1 ≤ R.cells) (hRs : slots + 6 ≤ R.slots) (hp : px cls g) (hc : cells + 1 ≤ mc) (hs : slots + 6 ≤ ms) :
    W p l e R s m args below meth c H locs cells slots (vx_MQ below Qc (uX9 D (uW n A O cs a) px F) args s mc ms F) (F0 m pc ls rest) := by
  obtain ⟨sa, hsa⟩ := hC.2.2.2.2.2.1 _ hstr
  refine vx_throwS hC.1.1 hC.1.2.1 (by rw [Launch.stackTraces, hl]; decide +kernel) (own := RX6) (text := text) (names := ["java/lang/RuntimeException", "java/lang/Exception"]) hC.1.2.2.2.1 hfit (by decide +kernel) hcl hini hsa
    (vx_hat (fun w hw => hC.1.2.2.2.2 w (hat w hw)) hat2 (fun w hw => va_Nw.use (excW_on w hw) (hC.2.2.2.2.2.2.2.2.2.1 w hw))) hgood hC.2.2.2.1.1 hC.2.2.2.1.2 hE.2.2 (hls.1.trans hC.1.2.2.1.symm) d0 d3 d4 d6 d9 (fun x hx => (hx0 x hx).elim) hRf hRl hRc hRs hk ?_ hE.2.2.2.2 hc hs
  intro t _ hz hq
  obtain ⟨h1, h2, h3⟩ := uE_grow hE hz hq
  exact ⟨g, trivial, ⟨hp, h1⟩, h2, h3⟩
theorem T_throwW (hl : l.flags = flags0) (hC : uC p m c cc nL s args Ts RX6 D cs az F) (hx0 : ∀ x ∈ c.exceptionTable.toList, False) (hk : meth.locks = false) (hE : uE D n A O cs a F s g H locs) {lv : List (Nat × Value)} (hls : lv_has ls nL lv) {cls text : String} {ik is ic : Nat}
    (hfit : Bundle.fit cls = true) (hcl : (Cond.classLink RX6 ik cls).before args s = true) (hini : (Cond.initialized cls).before args s = true) (hstr : (is, text) ∈ strW)
    (hat : ∀ w ∈ (vx_atS RX6 ic cls ["java/lang/RuntimeException", "java/lang/Exception"]).filter goodWord, w ∈ Ts) (hat2 : ∀ w ∈ (vx_atS RX6 ic cls ["java/lang/RuntimeException", "java/lang/Exception"]).filter (fun w => !goodWord w), w ∈ excW)
    (hgood : ∀ w ∈ Cond.classLink RX6 ik cls :: Cond.initialized cls :: vx_atS RX6 ic cls ["java/lang/RuntimeException", "java/lang/Exception"], vx_ot w = true)
    (d0 : decode cc pc = .ok (.new ik, 3)) (d3 : decode cc (pc + 3) = .ok (.dup, 1)) (d4 : decode cc (pc + 4) = .ok (.ldc_w is, 3)) (d6 : decode cc (pc + 7) = .ok (.invokespecial ic, 3)) (d9 : decode cc (pc + 10) = .ok (.athrow, 1))
    (hRf : 5 < R.frames) (hRl : (rest.map fun v => v.category).sum + 82 ≤ R.locals) (hRc : cells + 1 ≤ R.cells) (hRs : slots + 6 ≤ R.slots) (hp : px cls g) (hc : cells + 1 ≤ mc) (hs : slots + 6 ≤ ms) :
    W p l e R s m args below meth c H locs cells slots (vx_MQ below Qc (uX9 D (uW n A O cs a) px F) args s mc ms F) (F0 m pc ls rest) := by
  obtain ⟨sa, hsa⟩ := hC.2.2.2.2.2.1 _ hstr
  refine vx_throwSW hC.1.1 hC.1.2.1 (by rw [Launch.stackTraces, hl]; decide +kernel) (own := RX6) (text := text) (names := ["java/lang/RuntimeException", "java/lang/Exception"]) hC.1.2.2.2.1 hfit (by decide +kernel) hcl hini hsa
    (vx_hat (fun w hw => hC.1.2.2.2.2 w (hat w hw)) hat2 (fun w hw => va_Nw.use (excW_on w hw) (hC.2.2.2.2.2.2.2.2.2.1 w hw))) hgood hC.2.2.2.1.1 hC.2.2.2.1.2 hE.2.2 (hls.1.trans hC.1.2.2.1.symm) d0 d3 d4 d6 d9 (fun x hx => (hx0 x hx).elim) hRf hRl hRc hRs hk ?_ hE.2.2.2.2 hc hs
  intro t _ hz hq
  obtain ⟨h1, h2, h3⟩ := uE_grow hE hz hq
  exact ⟨g, trivial, ⟨hp, h1⟩, h2, h3⟩
theorem T_throwN (hl : l.flags = flags0) (hC : uC p m c cc nL s args Ts RX6 D cs az F) (hx0 : ∀ x ∈ c.exceptionTable.toList, False) (hk : meth.locks = false) (hE : uE D n A O cs a F s g H locs) {lv : List (Nat × Value)} (hls : lv_has ls nL lv) {cls text : String} {ik is ic : Nat}
    (hfit : Bundle.fit cls = true) (hcl : (Cond.classLink RX6 ik cls).before args s = true) (hini : (Cond.initialized cls).before args s = true) (hstr : (is, text) ∈ strW)
    (hat : ∀ w ∈ (vx_atSX RX6 ic cls 13 vx_rx13 ["java/lang/RuntimeException", "java/lang/Exception"]).filter goodWord, w ∈ Ts) (hat2 : ∀ w ∈ (vx_atSX RX6 ic cls 13 vx_rx13 ["java/lang/RuntimeException", "java/lang/Exception"]).filter (fun w => !goodWord w), w ∈ excW)
    (hgood : ∀ w ∈ Cond.classLink RX6 ik cls :: Cond.initialized cls :: vx_atSX RX6 ic cls 13 vx_rx13 ["java/lang/RuntimeException", "java/lang/Exception"], vx_ot w = true)
    (d0 : decode cc pc = .ok (.new ik, 3)) (d3 : decode cc (pc + 3) = .ok (.dup, 1)) (d4 : decode cc (pc + 4) = .ok (.ldc is, 2)) (d6 : decode cc (pc + 6) = .ok (.invokespecial ic, 3)) (d9 : decode cc (pc + 9) = .ok (.athrow, 1))
    (hRf : 5 < R.frames) (hRl : (rest.map fun v => v.category).sum + 82 ≤ R.locals) (hRc : cells + 1 ≤ R.cells) (hRs : slots + 6 ≤ R.slots) (hp : px cls g) (hc : cells + 1 ≤ mc) (hs : slots + 6 ≤ ms) :
    W p l e R s m args below meth c H locs cells slots (vx_MQ below Qc (uX9 D (uW n A O cs a) px F) args s mc ms F) (F0 m pc ls rest) := by
  obtain ⟨sa, hsa⟩ := hC.2.2.2.2.2.1 _ hstr
  refine vx_throwSX (ix := 13) (rx := vx_rx13) hC.1.1 hC.1.2.1 (by rw [Launch.stackTraces, hl]; decide +kernel) (by decide +kernel) (by decide +kernel) (by decide +kernel) (by decide +kernel) (own := RX6) (text := text) (names := ["java/lang/RuntimeException", "java/lang/Exception"]) hC.1.2.2.2.1 hfit (by decide +kernel) hcl hini hsa
    (vx_hat (fun w hw => hC.1.2.2.2.2 w (hat w hw)) hat2 (fun w hw => va_Nw.use (excW_on w hw) (hC.2.2.2.2.2.2.2.2.2.1 w hw))) hgood hC.2.2.2.1.1 hC.2.2.2.1.2 hE.2.2 (hls.1.trans hC.1.2.2.1.symm) d0 d3 d4 d6 d9 (fun x hx => (hx0 x hx).elim) hRf hRl hRc hRs hk ?_ hE.2.2.2.2 hc hs
  intro t _ hz hq
  obtain ⟨h1, h2, h3⟩ := uE_grow hE hz hq
  exact ⟨g, trivial, ⟨hp, h1⟩, h2, h3⟩
theorem T_throwWN (hl : l.flags = flags0) (hC : uC p m c cc nL s args Ts RX6 D cs az F) (hx0 : ∀ x ∈ c.exceptionTable.toList, False) (hk : meth.locks = false) (hE : uE D n A O cs a F s g H locs) {lv : List (Nat × Value)} (hls : lv_has ls nL lv) {cls text : String} {ik is ic : Nat}
    (hfit : Bundle.fit cls = true) (hcl : (Cond.classLink RX6 ik cls).before args s = true) (hini : (Cond.initialized cls).before args s = true) (hstr : (is, text) ∈ strW)
    (hat : ∀ w ∈ (vx_atSX RX6 ic cls 13 vx_rx13 ["java/lang/RuntimeException", "java/lang/Exception"]).filter goodWord, w ∈ Ts) (hat2 : ∀ w ∈ (vx_atSX RX6 ic cls 13 vx_rx13 ["java/lang/RuntimeException", "java/lang/Exception"]).filter (fun w => !goodWord w), w ∈ excW)
    (hgood : ∀ w ∈ Cond.classLink RX6 ik cls :: Cond.initialized cls :: vx_atSX RX6 ic cls 13 vx_rx13 ["java/lang/RuntimeException", "java/lang/Exception"], vx_ot w = true)
    (d0 : decode cc pc = .ok (.new ik, 3)) (d3 : decode cc (pc + 3) = .ok (.dup, 1)) (d4 : decode cc (pc + 4) = .ok (.ldc_w is, 3)) (d6 : decode cc (pc + 7) = .ok (.invokespecial ic, 3)) (d9 : decode cc (pc + 10) = .ok (.athrow, 1))
    (hRf : 5 < R.frames) (hRl : (rest.map fun v => v.category).sum + 82 ≤ R.locals) (hRc : cells + 1 ≤ R.cells) (hRs : slots + 6 ≤ R.slots) (hp : px cls g) (hc : cells + 1 ≤ mc) (hs : slots + 6 ≤ ms) :
    W p l e R s m args below meth c H locs cells slots (vx_MQ below Qc (uX9 D (uW n A O cs a) px F) args s mc ms F) (F0 m pc ls rest) := by
  obtain ⟨sa, hsa⟩ := hC.2.2.2.2.2.1 _ hstr
  refine vx_throwSWX (ix := 13) (rx := vx_rx13) hC.1.1 hC.1.2.1 (by rw [Launch.stackTraces, hl]; decide +kernel) (by decide +kernel) (by decide +kernel) (by decide +kernel) (by decide +kernel) (own := RX6) (text := text) (names := ["java/lang/RuntimeException", "java/lang/Exception"]) hC.1.2.2.2.1 hfit (by decide +kernel) hcl hini hsa
    (vx_hat (fun w hw => hC.1.2.2.2.2 w (hat w hw)) hat2 (fun w hw => va_Nw.use (excW_on w hw) (hC.2.2.2.2.2.2.2.2.2.1 w hw))) hgood hC.2.2.2.1.1 hC.2.2.2.1.2 hE.2.2 (hls.1.trans hC.1.2.2.1.symm) d0 d3 d4 d6 d9 (fun x hx => (hx0 x hx).elim) hRf hRl hRc hRs hk ?_ hE.2.2.2.2 hc hs
  intro t _ hz hq
  obtain ⟨h1, h2, h3⟩ := uE_grow hE hz hq
  exact ⟨g, trivial, ⟨hp, h1⟩, h2, h3⟩
theorem uE_over {post : St → Prop} {g' : St} {t : State} {H1 : Heap} {l1 : List Loc} (hE : uE D n A O cs a F s g H locs) (ht : t.heap = H1) (hB : uB D (uW n A O cs a) g' t) (hS : va_S F s.heap H1 l1) : uE D n A O cs a F s g' H1 l1 := ⟨by rw [← ht]; exact hB, uW_dis hE.2.1, hS⟩
variable {y : MethodName} {bytes : ByteArray} {maxL k index q0 ci mc1 ms1 : Nat} {ws : List Cond} {rm : Room} {C : String} {T : u_T} {Nf : Nat} {As : List Value} {rt : FieldType} {lv : List (Nat × Value)}
/-- it goes on to the caller -/
theorem T_pass (hC : uC p m c cc nL s args Ts own D cs az F) (hx0 : ∀ x ∈ c.exceptionTable.toList, False) (hk : meth.locks = false) (hE : uE D n A O cs a F s g H locs) (h1 : cells ≤ mc) (h2 : slots ≤ ms)
    {E : String} {ce : Cell} {q9 : Addr} {u : St} {t : State} {H1 : Heap} {l1 : List Loc} (ht : t.heap = H1) (hB : px E u ∧ uB D (uW n A O cs a) u t) (hS : va_S F s.heap H1 l1) (e1 : H1[q9]? = some ce) (e2 : ce.vm = .none) (e3 : s.vm.findClass E = some ce.cls) :
    vx_W p l e R s m args below meth c H1 l1 cells slots (vx_MQ below Qc (uX9 D (uW n A O cs a) px F) args s mc ms F) (F0 m pc ls rest) q9 :=
  vx_out (fun x hx => (hx0 x hx).elim) hk e1 e2 e3 (fun t2 ht2 _ => ⟨u, trivial, ⟨hB.1, by unfold uB; rw [ht2, ← ht]; exact hB.2⟩, hS.F ht2⟩) hS.2.2 h1 h2
theorem T_callSTv {post : St → Prop} (hC : uC p m c cc nL s args Ts own D cs az F) (hx0 : ∀ x ∈ c.exceptionTable.toList, False) (hk : meth.locks = false) (hM : uTv l y ws rm D cs az (uW n A O cs a) As g mc1 ms1 post px) (cw : CallB R s args own index y bytes maxL none ws rm mc1 ms1 k ∧ (Cond.static y).before args s = true)
    (hn : As.length = k) (hl : lv_has ls nL lv) (hst : st0 = As.reverse ++ rest) (hW : (rest.map fun v => v.category).sum ≤ 8) (hdg : decode cc pc = .ok (.invokestatic index, 3)) (hE : uE D n A O cs a F s g H locs)
    (hc : cells + mc1 ≤ R.cells) (hs : slots + ms1 ≤ R.slots) (h1 : cells + mc1 ≤ mc) (h2 : slots + ms1 ≤ ms)
    (kk : ∀ (g' : St) (H : Heap) (locs : List Loc), post g' → uE D n A O cs a F s g' H locs → W p l e R s m args below meth c H locs (cells + mc1) (slots + ms1) (vx_MQ below Qc (uX9 D (uW n A O cs a) px F) args s mc ms F) (F0 m (pc + 3) ls rest)) :
    W p l e R s m args below meth c H locs cells slots (vx_MQ below Qc (uX9 D (uW n A O cs a) px F) args s mc ms F) (F0 m pc ls st0) := by
  subst hst
  exact vx_callv (vx_runS (As := As) (rest := rest) hC.1 (hM H.size) cw ⟨uP_blind, fun U hU hW => uP_at hC.2.1 hC.2.2.1 hC.2.2.2 hE hU hW⟩ rfl hn hl.1 rfl (lv_room hW) hdg ⟨hc, hs⟩) hE.2.2 (fun q _ h => uE_free hC.2.2.1 hE q h) (uE_free hC.2.2.1 hE) (fun q _ h => uE_free hC.2.2.1 hE q h)
    (fun E ce q9 u t H1 l1 ht _ _ hB _ _ hS e1 e2 e3 => T_pass hC hx0 hk hE h1 h2 ht hB hS e1 e2 e3)
    (fun u t H1 l1 ht _ hp hB _ _ hS => kk u H1 l1 hp (uE_over (post := fun _ => True) hE ht hB hS))
theorem T_callVTv {post : St → Prop} (hC : uC p m c cc nL s args Ts own D cs az F) (hx0 : ∀ x ∈ c.exceptionTable.toList, False) (hk : meth.locks = false) (hM : uTv l y ws rm D cs az (uW n A O cs a) (.ref (a q0) :: As) g mc1 ms1 post px) (cw : CallW R s args own C index y bytes maxL none ws rm mc1 ms1 k) {fs : (Nat → Int32) → List Value} (hf : (q0 < n ∧ A q0 = none) ∧ ∀ sc, O sc q0 = .inr (ci, fs sc)) (hcl : vwCl[ci]? = some (C, T, Nf))
    (hn : As.length = k) (hl : lv_has ls nL lv) (hst : st0 = As.reverse ++ .ref (a q0) :: rest) (hW : (rest.map fun v => v.category).sum ≤ 8) (hdg : decode cc pc = .ok (.invokevirtual index, 3)) (hE : uE D n A O cs a F s g H locs)
    (hc : cells + mc1 ≤ R.cells) (hs : slots + ms1 ≤ R.slots) (h1 : cells + mc1 ≤ mc) (h2 : slots + ms1 ≤ ms)
    (kk : ∀ (g' : St) (H : Heap) (locs : List Loc), post g' → uE D n A O cs a F s g' H locs → W p l e R s m args below meth c H locs (cells + mc1) (slots + ms1) (vx_MQ below Qc (uX9 D (uW n A O cs a) px F) args s mc ms F) (F0 m (pc + 3) ls rest)) :
    W p l e R s m args below meth c H locs cells slots (vx_MQ below Qc (uX9 D (uW n A O cs a) px F) args s mc ms F) (F0 m pc ls st0) := by
  subst hst
  exact vx_callv (vx_runV (As := As) (rest := rest) hC.1 (hM H.size) cw ⟨uP_blind, va_recv hC.2.1 hE.1 hcl (uW_obj hf.1 (hf.2 _)), fun U hU hW => uP_at hC.2.1 hC.2.2.1 hC.2.2.2 hE hU hW⟩ rfl hn hl.1 rfl (lv_room hW) hdg ⟨hc, hs⟩) hE.2.2 (fun q _ h => uE_free hC.2.2.1 hE q h) (uE_free hC.2.2.1 hE) (fun q _ h => uE_free hC.2.2.1 hE q h)
    (fun E ce q9 u t H1 l1 ht _ _ hB _ _ hS e1 e2 e3 => T_pass hC hx0 hk hE h1 h2 ht hB hS e1 e2 e3)
    (fun u t H1 l1 ht _ hp hB _ _ hS => kk u H1 l1 hp (uE_over (post := fun _ => True) hE ht hB hS))
theorem T_callVi {post : Int32 → St → Prop} (hC : uC p m c cc nL s args Ts own D cs az F) (hM : uMi l y ws rm D cs az (uW n A O cs a) (.ref (a q0) :: As) g post) (cw : CallW R s args own C index y bytes maxL (some rt) ws rm 0 0 k) {fs : (Nat → Int32) → List Value} (hf : (q0 < n ∧ A q0 = none) ∧ ∀ sc, O sc q0 = .inr (ci, fs sc)) (hcl : vwCl[ci]? = some (C, T, Nf))
    (hn : As.length = k) (hl : lv_has ls nL lv) (hst : st0 = As.reverse ++ .ref (a q0) :: rest) (hW : (rest.map fun v => v.category).sum ≤ 8) (hdg : decode cc pc = .ok (.invokevirtual index, 3)) (hE : uE D n A O cs a F s g H locs) (hc : cells ≤ R.cells) (hs : slots ≤ R.slots)
    (kk : ∀ (r : Int32) (g' : St) (H : Heap) (locs : List Loc), post r g' → uE D n A O cs a F s g' H locs → W p l e R s m args below meth c H locs cells slots Q (F0 m (pc + 3) ls (.int r :: rest))) : W p l e R s m args below meth c H locs cells slots Q (F0 m pc ls st0) := by
  subst hst
  exact va_calli (va_runV (As := As) (rest := rest) hC.1 (hM H.size) cw ⟨uP_blind, va_recv hC.2.1 hE.1 hcl (uW_obj hf.1 (hf.2 _)), fun U hU hW => uP_at hC.2.1 hC.2.2.1 hC.2.2.2 hE hU hW⟩ rfl hn hl.1 rfl (lv_room hW) hdg ⟨hc, hs⟩) hE.2.2 (fun q _ h => uE_free hC.2.2.1 hE q h) (uE_free hC.2.2.1 hE)
    (fun r u t H1 l1 ht _ hp hB _ _ hS => kk r u H1 l1 hp (uE_over (post := fun _ => True) hE ht hB hS))
theorem T_callVv {post : St → Prop} (hC : uC p m c cc nL s args Ts own D cs az F) (hM : uMv l y ws rm D cs az (uW n A O cs a) (.ref (a q0) :: As) g post) (cw : CallW R s args own C index y bytes maxL none ws rm 0 0 k) {fs : (Nat → Int32) → List Value} (hf : (q0 < n ∧ A q0 = none) ∧ ∀ sc, O sc q0 = .inr (ci, fs sc)) (hcl : vwCl[ci]? = some (C, T, Nf))
    (hn : As.length = k) (hl : lv_has ls nL lv) (hst : st0 = As.reverse ++ .ref (a q0) :: rest) (hW : (rest.map fun v => v.category).sum ≤ 8) (hdg : decode cc pc = .ok (.invokevirtual index, 3)) (hE : uE D n A O cs a F s g H locs) (hc : cells ≤ R.cells) (hs : slots ≤ R.slots)
    (kk : ∀ (g' : St) (H : Heap) (locs : List Loc), post g' → uE D n A O cs a F s g' H locs → W p l e R s m args below meth c H locs cells slots Q (F0 m (pc + 3) ls rest)) : W p l e R s m args below meth c H locs cells slots Q (F0 m pc ls st0) := by
  subst hst
  exact va_callv (va_runV (As := As) (rest := rest) hC.1 (hM H.size) cw ⟨uP_blind, va_recv hC.2.1 hE.1 hcl (uW_obj hf.1 (hf.2 _)), fun U hU hW => uP_at hC.2.1 hC.2.2.1 hC.2.2.2 hE hU hW⟩ rfl hn hl.1 rfl (lv_room hW) hdg ⟨hc, hs⟩) hE.2.2 (fun q _ h => uE_free hC.2.2.1 hE q h) (uE_free hC.2.2.1 hE)
    (fun u t H1 l1 ht _ hp hB _ _ hS => kk u H1 l1 hp (uE_over (post := fun _ => True) hE ht hB hS))
end GTR
