/-! PART 23: constructors: worlds that grow, as lists written out -/
def g00 : St := (fun _ _ => 0, fun _ => 0)
/-- a constructor: from the cells w0 (its own blank object) to the cells W1 u, u the addresses of what is new -/
def uN {σ : Type} (l : Launch) (y : MethodName) (ws : List Cond) (rm : Room) (D : va_G) (cs az : Nat → Nat) (w0 : va_W) (av : List Value) (mc ms : Nat) (post : σ → Prop) (W1 : σ → va_W) : Prop :=
  ∀ sz, Met l y ws rm (uP D cs az (fun _ => w0) sz av g00) (va_Qv post (fun u t => va_P D vwCl (W1 u) t.heap ∧ va_D (va_A w0 sz) (W1 u)) (va_A w0 sz)) mc ms (va_A w0 sz)
theorem u_ofN {σ : Type} {l : Launch} {D : va_G} {cs az : Nat → Nat} {y : MethodName} {ws ws' : List Cond} {rm : Room} {maxL mc ms : Nat} {w0 : va_W} {av : List Value} {cc : ByteArray} {post : σ → Prop} {W1 : σ → va_W} (hn : y.name = "<init>") (hy : plainName y.cls = true) (hw : ws = Cond.code y cc maxL none :: ws') (hav : (lg_sl av).length ≤ maxL)
    (body : ∀ p e s m args below meth c F ls, uC p m c cc maxL s args ws y.cls D cs az F → meth.name = "<init>" → meth.sig.returnType = none → meth.locks = false → lv_has ls maxL (lv_args 0 av) → va_P D vwCl w0 s.heap → va_D F w0 → va_S F s.heap s.heap [] →
      W p l e rm s m args below meth c s.heap [] 0 0 (MQ below (va_Qv post (fun u t => va_P D vwCl (W1 u) t.heap ∧ va_D F (W1 u)) F) args s mc ms F) (F0 m 0 ls [])) : uN l y ws rm D cs az w0 av mc ms post W1 := by
  intro sz
  refine Met.ofW (cc := cc) (maxL := maxL) (ret := none) hy hw ?_
  intro p e s m args below meth c s₁ B hml hv
  obtain ⟨h0, h1, h2, h3, h4, h5⟩ := hv
  subst h1
  have hts := atoms_spec (ws := ws) B.pre
  rw [h0, lg_entry_eq]
  rw [h0] at hts
  exact body p e s m av.toArray below meth c _ _ ⟨⟨B.exec, B.bytes, hml, findClass_of_methodNamed B.named, hts⟩, h3, fun q h => Or.inr h, h5⟩ ((name_of_methodNamed B.named B.method).1.trans hn) B.returns B.notSynchronized (lv_entry av hav) h2 h4.self va_S.rf
theorem ra_int {s : State} {c1 c2 : Nat} {ty : FieldType} (h1 : va_RA s c1 ty) (h2 : va_RA s c2 ty) : c1 = c2 := by
  cases ty with
  | object C =>
    obtain ⟨_, _, _, _, _, e1⟩ := h1
    obtain ⟨_, _, _, _, _, e2⟩ := h2
    exact Option.some.inj (e1.symm.trans e2)
  | _ => exact Option.some.inj (h1.symm.trans h2)
section NR
variable {p : Program} {l : Launch} {e : Env} {R : Room} {s : State} {m : MethodId} {args : Array Value} {below : List Frame} {meth : Method} {c : Code} {H : Heap} {locs : List Loc} {cells slots : Nat} {Q : State → Prop}
variable {pc : Nat} {ls : Array Slot} {rest st0 : List Value} {cc : ByteArray} {nL : Nat} {Ts : List Cond} {own : String} {D : va_G} {cs az : Nat → Nat} {F : Nat → Prop} {ws : va_W}
theorem N_newa (hC : uC p m c cc nL s args Ts own D cs az F) (hP : va_P D vwCl ws H) (hD : va_D F ws) (hS : va_S F s.heap H locs) {atype : ArrayType} (harr : (Cond.arrayClass (newarray.typeOf atype)).before args s = true) {ty : FieldType} (hty : newarray.typeOf atype = ty) {t : Nat} (ht : (gT cs)[t]? = some (cs t, ty))
    {n : Int32} {N' : Nat} {a0 : vp_A} (ha : ∀ cA : ClassId, vp_cell cA a0 = arrV cA N' (fun _ => defaultValue ty)) (hn : ¬ n < 0) (hN : n.toNatClampNeg = N') (hbytes : N' * componentBytes ty ≤ 536870912) (hcells : cells + 1 ≤ R.cells) (hslots : slots + N' ≤ R.slots) (hdg : decode cc pc = .ok (.newarray atype, 2))
    (kk : ∀ (q : Nat) (H1 : Heap), va_P D vwCl (ws ++ [(q, .inl (cs t, a0))]) H1 → va_D F (ws ++ [(q, .inl (cs t, a0))]) → va_S F s.heap H1 locs → W p l e R s m args below meth c H1 locs (cells + 1) (slots + N') Q (F0 m (pc + 2) ls (.ref q :: rest))) : W p l e R s m args below meth c H locs cells slots Q (F0 m pc ls (.int n :: rest)) := by
  refine va_newa hC.1.1 hC.1.2.1 harr hty hC.2.1 hP hD hS hC.2.2.1 ha hn hN hbytes hcells hslots hdg (fun q cA H1 k1 h1 h2 h3 => ?_)
  have e1 := (k1.2 7 _ rfl).2
  have e2 := (hC.2.1.2 t _ ht).2
  have e3 := ra_int e1 e2
  dsimp only at e3
  subst e3
  exact kk q H1 h1 h2 h3
theorem N_newq (hC : uC p m c cc nL s args Ts own D cs az F) (hP : va_P D vwCl ws H) (hD : va_D F ws) (hS : va_S F s.heap H locs) {C : String} {index : Nat} (hcl : (Cond.classLink own index C).before args s = true) (hover : va_AO C s) {t : Nat} (ht : (gT cs)[t]? = some (cs t, .object C))
    {n : Int32} {N' : Nat} (hn : ¬ n < 0) (hN : n.toNatClampNeg = N') (hbytes : N' * 4 ≤ 536870912) (hcells : cells + 1 ≤ R.cells) (hslots : slots + N' ≤ R.slots) (hdg : decode cc pc = .ok (.anewarray index, 3))
    (kk : ∀ (q : Nat) (H1 : Heap), va_P D vwCl (ws ++ [(q, .inl (cs t, N', .inr (.inr (.inr (.inr (fun _ => none))))))]) H1 → va_D F (ws ++ [(q, .inl (cs t, N', .inr (.inr (.inr (.inr (fun _ => none))))))]) → va_S F s.heap H1 locs → W p l e R s m args below meth c H1 locs (cells + 1) (slots + N') Q (F0 m (pc + 3) ls (.ref q :: rest))) : W p l e R s m args below meth c H locs cells slots Q (F0 m pc ls (.int n :: rest)) := by
  refine va_newq hC.1.1 hC.1.2.1 hC.1.2.2.2.1 hcl hover hC.2.1 hP hD hS hC.2.2.1 hn hN hbytes hcells hslots hdg (fun q cA H1 k1 h1 h2 h3 => ?_)
  have e1 := (k1.2 7 _ rfl).2
  have e2 := (hC.2.1.2 t _ ht).2
  have e3 := ra_int e1 e2
  dsimp only at e3
  subst e3
  exact kk q H1 h1 h2 h3
theorem uP_atL {wc : va_W} {U : State} {av : List Value} {g : St} (isC : List Nat) (hC9 : isC.map (fun i => ws[i]?) = wc.map some) (hnd : va_nd isC = true) (hC : uC p m c cc nL s args Ts own D cs az F) (hP : va_P D vwCl ws H) (hD : va_D F ws) (hS : va_S F s.heap H locs) (hU : U.heap = H) (hW : s.WarmedH U.vm) : uP D cs az (fun _ => wc) H.size av g av.toArray U := by
  have hD1 : va_D F wc := hD.sub isC hnd hC9
  have hP1 : va_P D vwCl wc H := by
    intro k q hq
    have h1 : (isC.map (fun i => ws[i]?))[k]? = some (some q) := by rw [hC9, List.getElem?_map, hq]; rfl
    rw [List.getElem?_map] at h1
    cases hi : isC[k]? with
    | none => rw [hi] at h1; cases h1
    | some i => rw [hi] at h1; exact hP i q (Option.some.inj h1)
  refine ⟨rfl, by rw [hU], by rw [hU]; exact hP1, va_K.moved hW.alike hC.2.1, hD1.weaken (fun _ _ _ _ => trivial), ?_⟩
  rw [hU]
  refine zF.narrow ((zF.warm hW hC.2.2.2).kept hS.2.1) ?_
  intro q h
  rcases h with ⟨k, e, h⟩ | h
  · exact hD1.2 k (q, e) h
  · exact hC.2.2.1 q (Nat.le_trans hS.1 h)
variable {σ : Type} {y : MethodName} {bytes : ByteArray} {maxL k index mc ms : Nat} {ws2 : List Cond} {rm : Room} {As : List Value} {lv : List (Nat × Value)} {wc wr : va_W} {post : σ → Prop} {W1 : σ → va_W} {b : Nat}
theorem N_run (hC : uC p m c cc nL s args Ts own D cs az F) (hP : va_P D vwCl ws H) (hD : va_D F ws) (hS : va_S F s.heap H locs) (isC isR : List Nat) (hCm : isC.map (fun i => ws[i]?) = wc.map some) (hRm : isR.map (fun i => ws[i]?) = wr.map some) (hnR : va_nd isR = true) (hdis : ∀ i ∈ isR, i ∉ isC) {av : Array Value}
    (hr : va_Run p l e R s m args below meth c H locs cells slots mc ms (F0 m pc ls st0) rest (va_Qv post (fun u t => va_P D vwCl (W1 u) t.heap ∧ va_D (va_A wc H.size) (W1 u)) (va_A wc H.size) av) (va_A wc H.size))
    (kk : ∀ (u : σ) (H1 : Heap) (l1 : List Loc), post u → va_P D vwCl (wr ++ W1 u) H1 → va_D F (wr ++ W1 u) → va_S F s.heap H1 l1 → W p l e R s m args below meth c H1 l1 (cells + mc) (slots + ms) Q (F0 m (pc + 3) ls rest)) : W p l e R s m args below meth c H locs cells slots Q (F0 m pc ls st0) := by
  have hF := va_free (wc := wc) hD hS hC.2.2.1 isC hCm
  refine va_callv hr hS (fun q _ h => hF q h) hF (fun u t H1 l1 ht _ hp hB _ hk1 hS1 => ?_)
  have hB1 := hB.1
  rw [ht] at hB1
  obtain ⟨h1, h2⟩ := va_join (wr := wr) hP hD isC isR hCm hRm hnR hdis hk1 hF hB1 hB.2
  exact kk u H1 l1 hp h1 h2 hS1
theorem N_callI (hC : uC p m c cc nL s args Ts own D cs az F) (hP : va_P D vwCl ws H) (hD : va_D F ws) (hS : va_S F s.heap H locs) (isC isR : List Nat) (hCm : isC.map (fun i => ws[i]?) = wc.map some) (hnC : va_nd isC = true) (hRm : isR.map (fun i => ws[i]?) = wr.map some) (hnR : va_nd isR = true) (hdis : ∀ i ∈ isR, i ∉ isC)
    (hM : uN l y ws2 rm D cs az wc (.ref b :: As) mc ms post W1) (cw : CallB R s args own index y bytes maxL none ws2 rm mc ms k ∧ y.name = "<init>" ∧ (Cond.instanceMethod y).before args s = true)
    (hn : As.length = k) (hl : lv_has ls nL lv) (hst : st0 = As.reverse ++ .ref b :: rest) (hW : (rest.map fun v => v.category).sum ≤ 8) (hdg : decode cc pc = .ok (.invokespecial index, 3)) (hc : cells + mc ≤ R.cells) (hs : slots + ms ≤ R.slots)
    (kk : ∀ (u : σ) (H1 : Heap) (l1 : List Loc), post u → va_P D vwCl (wr ++ W1 u) H1 → va_D F (wr ++ W1 u) → va_S F s.heap H1 l1 → W p l e R s m args below meth c H1 l1 (cells + mc) (slots + ms) Q (F0 m (pc + 3) ls rest)) : W p l e R s m args below meth c H locs cells slots Q (F0 m pc ls st0) := by
  subst hst
  exact N_run hC hP hD hS isC isR hCm hRm hnR hdis (va_runI (As := As) (rest := rest) hC.1 (hM H.size) cw ⟨uP_blind, fun U hU hW => uP_atL isC hCm hnC hC hP hD hS hU hW⟩ rfl hn hl.1 rfl (lv_room hW) hdg ⟨hc, hs⟩) kk
theorem N_callIN (hC : uC p m c cc nL s args Ts own D cs az F) (hP : va_P D vwCl ws H) (hD : va_D F ws) (hS : va_S F s.heap H locs) (isC isR : List Nat) (hCm : isC.map (fun i => ws[i]?) = wc.map some) (hnC : va_nd isC = true) (hRm : isR.map (fun i => ws[i]?) = wr.map some) (hnR : va_nd isR = true) (hdis : ∀ i ∈ isR, i ∉ isC)
    (hM : uN l y ws2 rm D cs az wc (.ref b :: As) mc ms post W1) (cw : va_CN R s args own index y "SeedBattle" bytes maxL none ws2 rm mc ms k ∧ y.name = "<init>" ∧ (Cond.instanceMethod y).before args s = true)
    (hn : As.length = k) (hl : lv_has ls nL lv) (hst : st0 = As.reverse ++ .ref b :: rest) (hW : (rest.map fun v => v.category).sum ≤ 8) (hdg : decode cc pc = .ok (.invokespecial index, 3)) (hc : cells + mc ≤ R.cells) (hs : slots + ms ≤ R.slots)
    (kk : ∀ (u : σ) (H1 : Heap) (l1 : List Loc), post u → va_P D vwCl (wr ++ W1 u) H1 → va_D F (wr ++ W1 u) → va_S F s.heap H1 l1 → W p l e R s m args below meth c H1 l1 (cells + mc) (slots + ms) Q (F0 m (pc + 3) ls rest)) : W p l e R s m args below meth c H locs cells slots Q (F0 m pc ls st0) := by
  subst hst
  exact N_run hC hP hD hS isC isR hCm hRm hnR hdis (va_runIN (As := As) (rest := rest) hC.1 (hM H.size) cw ⟨uP_blind, fun U hU hW => uP_atL isC hCm hnC hC hP hD hS hU hW⟩ rfl hn hl.1 rfl (lv_room hW) hdg ⟨hc, hs⟩) kk
/-- Arrays.fill over one array of the list -/
theorem N_fill (hC : uC p m c cc nL s args Ts own D cs az F) (hP : va_P D vwCl ws H) (hD : va_D F ws) (hS : va_S F s.heap H locs) (isC isR : List Nat) {q N : Nat} {f f2 : Nat → Int32} (hCm : isC.map (fun i => ws[i]?) = ([(q, .inl (cs 0, N, .inl f))] : va_W).map some) (hnC : va_nd isC = true) (hRm : isR.map (fun i => ws[i]?) = wr.map some) (hnR : va_nd isR = true) (hdis : ∀ i ∈ isR, i ∉ isC)
    (hM : uMv l y ws2 rm D cs az (uW 1 (fun _ => some (0, N)) (fun _ _ => .inr (0, [])) cs (fun _ => q)) As (fun _ => f, fun _ => 0) (fun g' => g'.1 0 = f2)) (cw : CallB R s args own index y bytes maxL none ws2 rm 0 0 k ∧ (Cond.static y).before args s = true)
    (hn : As.length = k) (hl : lv_has ls nL lv) (hst : st0 = As.reverse ++ rest) (hW : (rest.map fun v => v.category).sum ≤ 8) (hdg : decode cc pc = .ok (.invokestatic index, 3)) (hc : cells ≤ R.cells) (hs : slots ≤ R.slots)
    (kk : ∀ (H1 : Heap) (l1 : List Loc), va_P D vwCl (wr ++ [(q, .inl (cs 0, N, .inl f2))]) H1 → va_D F (wr ++ [(q, .inl (cs 0, N, .inl f2))]) → va_S F s.heap H1 l1 → W p l e R s m args below meth c H1 l1 cells slots Q (F0 m (pc + 3) ls rest)) : W p l e R s m args below meth c H locs cells slots Q (F0 m pc ls st0) := by
  subst hst
  have hw1 : ∀ g : St, uW 1 (fun _ => some (0, N)) (fun _ _ => .inr (0, [])) cs (fun _ => q) g = [(q, .inl (cs 0, N, .inl (g.1 0)))] := fun _ => rfl
  have hF := va_free (wc := [(q, .inl (cs 0, N, .inl f))]) hD hS hC.2.2.1 isC hCm
  refine va_callv (va_runS (As := As) (rest := rest) hC.1 (hM H.size) cw ⟨uP_blind, fun U hU hW => ?_⟩ rfl hn hl.1 rfl (lv_room hW) hdg ⟨hc, hs⟩) hS (fun q _ h => hF q h) hF (fun u t H1 l1 ht _ hp hB _ hk1 hS1 => ?_)
  · exact uP_atL (g := (fun _ => f, fun _ => 0)) isC hCm hnC hC hP hD hS hU hW
  · have hB1 : va_P D vwCl [(q, .inl (cs 0, N, .inl (u.1 0)))] t.heap := hB
    rw [ht, hp] at hB1
    have hDf : va_D F [(q, .inl (cs 0, N, .inl f))] := hD.sub isC hnC hCm
    have hD2 : va_D (va_A [(q, .inl (cs 0, N, .inl f))] H.size) [(q, .inl (cs 0, N, .inl f2))] := by
      refine ⟨fun i j x y hx hy _ => ?_, fun i x hx => ?_⟩
      · have hi : i < 1 := (List.getElem?_eq_some_iff.mp hx).1
        have hj : j < 1 := (List.getElem?_eq_some_iff.mp hy).1
        omega
      · have hi : i < 1 := (List.getElem?_eq_some_iff.mp hx).1
        have hi0 : i = 0 := by omega
        subst hi0
        cases hx
        exact Or.inl ⟨0, _, rfl⟩
    obtain ⟨h1, h2⟩ := va_join (wr := wr) hP hD isC isR hCm hRm hnR hdis hk1 hF hB1 hD2
    exact kk H1 l1 h1 h2 hS1
end NR
