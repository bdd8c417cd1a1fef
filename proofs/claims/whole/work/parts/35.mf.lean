/-! PART 35: answers that are floats -/
def uMf (l : Launch) (y : MethodName) (ws : List Cond) (rm : Room) (D : va_G) (cs az : Nat → Nat) (Wl : St → va_W) (av : List Value) (g : St) (post : UInt32 → St → Prop) : Prop :=
  ∀ sz, Met l y ws rm (uP D cs az Wl sz av g) (va_Qf post (uB D Wl) (va_A (Wl g) sz)) 0 0 (va_A (Wl g) sz)
def uMd (l : Launch) (y : MethodName) (ws : List Cond) (rm : Room) (D : va_G) (cs az : Nat → Nat) (Wl : St → va_W) (av : List Value) (g : St) (post : UInt64 → St → Prop) : Prop :=
  ∀ sz, Met l y ws rm (uP D cs az Wl sz av g) (va_Qd post (uB D Wl) (va_A (Wl g) sz)) 0 0 (va_A (Wl g) sz)
section GMF
variable {l : Launch} {D : va_G} {cs a az : Nat → Nat} {n : Nat} {A : Nat → Option (Nat × Nat)} {O : (Nat → Int32) → Nat → va_E} {g : St} {y : MethodName} {ws ws' : List Cond} {rm : Room} {maxL : Nat} {av : List Value} {cc : ByteArray}
theorem u_ofF {post : UInt32 → St → Prop} {rt : FieldType} (hy : plainName y.cls = true) (hw : ws = Cond.code y cc maxL (some rt) :: ws') (hav : (lg_sl av).length ≤ maxL)
    (body : ∀ p e s m args below meth c F ls, uC p m c cc maxL s args ws y.cls D cs az F → meth.sig.returnType = some rt → meth.locks = false → lv_has ls maxL (lv_args 0 av) → uE D n A O cs a F s g s.heap [] →
      W p l e rm s m args below meth c s.heap [] 0 0 (MQ below (va_Qf post (uB D (uW n A O cs a)) F) args s 0 0 F) (F0 m 0 ls [])) : uMf l y ws rm D cs az (uW n A O cs a) av g post := by
  intro sz
  refine Met.ofW (cc := cc) (maxL := maxL) (ret := some rt) hy hw ?_
  intro p e s m args below meth c s₁ B hml hv
  obtain ⟨h0, h1, hC, hE, hr, hk⟩ := u_pre B hml hv
  subst h1
  rw [h0, lg_entry_eq]
  rw [h0] at hC
  exact body p e s m av.toArray below meth c _ _ hC hr hk (lv_entry av hav) hE
theorem u_ofD {post : UInt64 → St → Prop} {rt : FieldType} (hy : plainName y.cls = true) (hw : ws = Cond.code y cc maxL (some rt) :: ws') (hav : (lg_sl av).length ≤ maxL)
    (body : ∀ p e s m args below meth c F ls, uC p m c cc maxL s args ws y.cls D cs az F → meth.sig.returnType = some rt → meth.locks = false → lv_has ls maxL (lv_args 0 av) → uE D n A O cs a F s g s.heap [] →
      W p l e rm s m args below meth c s.heap [] 0 0 (MQ below (va_Qd post (uB D (uW n A O cs a)) F) args s 0 0 F) (F0 m 0 ls [])) : uMd l y ws rm D cs az (uW n A O cs a) av g post := by
  intro sz
  refine Met.ofW (cc := cc) (maxL := maxL) (ret := some rt) hy hw ?_
  intro p e s m args below meth c s₁ B hml hv
  obtain ⟨h0, h1, hC, hE, hr, hk⟩ := u_pre B hml hv
  subst h1
  rw [h0, lg_entry_eq]
  rw [h0] at hC
  exact body p e s m av.toArray below meth c _ _ hC hr hk (lv_entry av hav) hE
variable {p : Program} {e : Env} {R : Room} {s : State} {m : MethodId} {args : Array Value} {below : List Frame} {meth : Method} {c : Code} {H : Heap} {locs : List Loc} {pc : Nat} {ls : Array Slot} {nL : Nat} {Ts : List Cond} {own : String} {F : Nat → Prop}
theorem G_fret {post : UInt32 → St → Prop} {v : UInt32} (hC : uC p m c cc nL s args Ts own D cs az F) (hr : meth.sig.returnType = some .float) (hk : meth.locks = false) (hE : uE D n A O cs a F s g H locs) (hp : post v g) (hdg : decode cc pc = .ok (.freturn, 1)) :
    W p l e R s m args below meth c H locs 0 0 (MQ below (va_Qf post (uB D (uW n A O cs a)) F) args s 0 0 F) (F0 m pc ls [.float v]) :=
  W.fret hC.1.1 hC.1.2.1 hr (fun t ht _ => ⟨⟨v, g, rfl, hp, by unfold uB; rw [ht]; exact hE.1⟩, hE.2.2.F ht⟩) hE.2.2.2.2 hdg hk
theorem G_dret {post : UInt64 → St → Prop} {v : UInt64} (hC : uC p m c cc nL s args Ts own D cs az F) (hr : meth.sig.returnType = some .double) (hk : meth.locks = false) (hE : uE D n A O cs a F s g H locs) (hp : post v g) (hdg : decode cc pc = .ok (.dreturn, 1)) :
    W p l e R s m args below meth c H locs 0 0 (MQ below (va_Qd post (uB D (uW n A O cs a)) F) args s 0 0 F) (F0 m pc ls [.double v]) :=
  W.dret hC.1.1 hC.1.2.1 hr (fun t ht _ => ⟨⟨v, g, rfl, hp, by unfold uB; rw [ht]; exact hE.1⟩, hE.2.2.F ht⟩) hE.2.2.2.2 hdg hk
end GMF
