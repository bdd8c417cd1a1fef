/-! PART 50: the law's world: the class, the two rows for answers, the reference -/
theorem va_D_nd {F : Nat → Prop} {w : va_W} : va_D F w ↔ (w.map Prod.fst).Pairwise (· ≠ ·) ∧ ∀ q ∈ w, F q.1 := by
  constructor
  · intro h
    refine ⟨?_, fun q hq => ?_⟩
    · rw [List.pairwise_iff_getElem]
      intro i j hi hj hij e
      have hi2 : i < w.length := by simpa using hi
      have hj2 : j < w.length := by simpa using hj
      rw [List.getElem_map, List.getElem_map] at e
      have := h.1 i j w[i] w[j] (List.getElem?_eq_getElem hi2) (List.getElem?_eq_getElem hj2) e
      omega
    · obtain ⟨i, hi⟩ := List.getElem?_of_mem hq
      exact h.2 i q hi
  · rintro ⟨h1, h2⟩
    refine ⟨fun i j p q hp hq e => ?_, fun k q hk => h2 q (List.mem_of_getElem? hk)⟩
    rw [List.pairwise_iff_getElem] at h1
    obtain ⟨hi, ep⟩ := List.getElem?_eq_some_iff.mp hp
    obtain ⟨hj, eq⟩ := List.getElem?_eq_some_iff.mp hq
    rcases Nat.lt_trichotomy i j with h | h | h
    · exact absurd (by rw [List.getElem_map, List.getElem_map, ep, eq, e]) (h1 i j (by simpa using hi) (by simpa using hj) h)
    · exact h
    · exact absurd (by rw [List.getElem_map, List.getElem_map, ep, eq, e]) (h1 j i (by simpa using hj) (by simpa using hi) h)
theorem va_D_perm {F : Nat → Prop} {w1 w2 : va_W} (h : va_D F w1) (p : w1.Perm w2) : va_D F w2 := by
  rw [va_D_nd] at h ⊢
  exact ⟨((p.map Prod.fst).pairwise_iff (fun h => Ne.symm h)).mp h.1, fun q hq => h.2 q (p.mem_iff.mpr hq)⟩
def wZ (cs : Nat → ClassId) (a bm : Nat → Nat) (ao ad : Nat) (g : St) (f : Nat → Int64) (fd : Nat → UInt64) (mu : St) : va_W := gW cs a g ++ (wOut cs ao f ++ (wOutD cs ad fd ++ mW cs bm mu))
def uZ (D : va_G) (cs a bm : Nat → Nat) (ao ad : Nat) (F : Nat → Prop) (s : State) (g : St) (f : Nat → Int64) (fd : Nat → UInt64) (mu : St) (H : Heap) (locs : List Loc) : Prop :=
  va_P D vwCl (wZ cs a bm ao ad g f fd mu) H ∧ va_D F (wZ cs a bm ao ad g f fd mu) ∧ va_S F s.heap H locs
theorem wZ_fst {cs a bm : Nat → Nat} {ao ad : Nat} {g g' : St} {f f' : Nat → Int64} {fd fd' : Nat → UInt64} {mu mu' : St} : (wZ cs a bm ao ad g f fd mu).map Prod.fst = (wZ cs a bm ao ad g' f' fd' mu').map Prod.fst := by
  unfold wZ
  rw [List.map_append, List.map_append, List.map_append, List.map_append, List.map_append, List.map_append, uW_adr (g := g) (g' := g'), uW_adr (g := mu) (g' := mu')]
  rfl
theorem uZ_dis {D : va_G} {cs a bm : Nat → Nat} {ao ad : Nat} {F : Nat → Prop} {s : State} {g g' : St} {f f' : Nat → Int64} {fd fd' : Nat → UInt64} {mu mu' : St} {H : Heap} {locs : List Loc} (h : uZ D cs a bm ao ad F s g f fd mu H locs) : va_D F (wZ cs a bm ao ad g' f' fd' mu') := va_D_fst h.2.1 wZ_fst
section ZR
variable {p : Program} {l : Launch} {e : Env} {R : Room} {s : State} {m : MethodId} {args : Array Value} {below : List Frame} {meth : Method} {c : Code} {H : Heap} {locs : List Loc} {cells slots mc ms : Nat} {Q : State → Prop}
variable {pc : Nat} {ls : Array Slot} {rest st0 : List Value} {cc : ByteArray} {nL : Nat} {Ts : List Cond} {own : String} {D : va_G} {cs a bm az : Nat → Nat} {ao ad : Nat} {F : Nat → Prop} {g mu : St} {f : Nat → Int64} {fd : Nat → UInt64}
theorem uZ_g (h : uZ D cs a bm ao ad F s g f fd mu H locs) : va_P D vwCl (gW cs a g) H := va_P_l h.1
theorem uZ_o (h : uZ D cs a bm ao ad F s g f fd mu H locs) : va_P D vwCl (wOut cs ao f) H := va_P_l (va_P_r h.1)
theorem uZ_d (h : uZ D cs a bm ao ad F s g f fd mu H locs) : va_P D vwCl (wOutD cs ad fd) H := va_P_l (va_P_r (va_P_r h.1))
theorem uZ_m (h : uZ D cs a bm ao ad F s g f fd mu H locs) : va_P D vwCl (mW cs bm mu) H := va_P_r (va_P_r (va_P_r h.1))
theorem uZ_mk (hD : va_D F (wZ cs a bm ao ad g f fd mu)) (hS : va_S F s.heap H locs) (h1 : va_P D vwCl (gW cs a g) H) (h2 : va_P D vwCl (wOut cs ao f) H) (h3 : va_P D vwCl (wOutD cs ad fd) H) (h4 : va_P D vwCl (mW cs bm mu) H) : uZ D cs a bm ao ad F s g f fd mu H locs := ⟨va_P.app h1 (va_P.app h2 (va_P.app h3 h4)), hD, hS⟩
/-- the world's rows, the blocks X (a callee's) first -/
theorem uZ_L (h : uZ D cs a bm ao ad F s g f fd mu H locs) : va_D F (wL cs a ao (g, f) ++ (wOutD cs ad fd ++ mW cs bm mu)) := va_D_perm h.2.1 (by unfold wZ wL; rw [List.append_assoc])
theorem uZ_D (h : uZ D cs a bm ao ad F s g f fd mu H locs) : va_D F (wD cs a ad (g, fd) ++ (wOut cs ao f ++ mW cs bm mu)) := va_D_perm h.2.1 (by
  unfold wZ wD
  rw [List.append_assoc]
  refine List.Perm.append_left _ ?_
  rw [← List.append_assoc, ← List.append_assoc]
  exact List.Perm.append_right _ List.perm_append_comm)
theorem uZ_M (h : uZ D cs a bm ao ad F s g f fd mu H locs) : va_D F (mW cs bm mu ++ (gW cs a g ++ (wOut cs ao f ++ wOutD cs ad fd))) := va_D_perm h.2.1 (by
  unfold wZ
  have e : gW cs a g ++ (wOut cs ao f ++ (wOutD cs ad fd ++ mW cs bm mu)) = (gW cs a g ++ (wOut cs ao f ++ wOutD cs ad fd)) ++ mW cs bm mu := by simp [List.append_assoc]
  rw [e]
  exact List.perm_append_comm)
theorem uPg_at {σ : Type} {Wl : σ → va_W} {z : σ} {Y : va_W} {U : State} {av : List Value} (hC : uC p m c cc nL s args Ts own D cs az F) (hP : va_P D vwCl (Wl z) H) (hD : va_D F (Wl z ++ Y)) (hS : va_S F s.heap H locs) (hU : U.heap = H) (hW : s.WarmedH U.vm) : uPg D cs az Wl H.size av z av.toArray U := by
  have hD1 := va_D_l hD
  refine ⟨rfl, by rw [hU], by rw [hU]; exact hP, va_K.moved hW.alike hC.2.1, hD1.weaken (fun _ _ _ _ => trivial), ?_⟩
  rw [hU]
  refine zF.narrow ((zF.warm hW hC.2.2.2).kept hS.2.1) ?_
  intro q h
  rcases h with ⟨k, e, h⟩ | h
  · exact hD1.2 k (q, e) h
  · exact hC.2.2.1 q (Nat.le_trans hS.1 h)
theorem A_free {X Y : va_W} (hC : uC p m c cc nL s args Ts own D cs az F) (hD : va_D F (X ++ Y)) (hS : va_S F s.heap H locs) : ∀ q, va_A X H.size q → F q := by
  intro q h
  rcases h with ⟨k, e, h⟩ | h
  · exact (va_D_l hD).2 k (q, e) h
  · exact hC.2.2.1 q (Nat.le_trans hS.1 h)
variable {y : MethodName} {bytes : ByteArray} {maxL k index : Nat} {ws : List Cond} {rm : Room} {As : List Value} {rt : FieldType} {lv : List (Nat × Value)} {hh : List (Nat × Nat × Nat × Nat)}
theorem Z_callL {post : Int32 → St × (Nat → Int64) → Prop} (hC : uC p m c cc nL s args Ts own D cs az F) (hM : uLi l y ws rm D cs az (wL cs a ao) As (g, f) post) (cw : vx_CSW R s args own index y bytes maxL (some rt) hh ws rm 4 24 k)
    (hn : As.length = k) (hl : lv_has ls nL lv) (hst : st0 = As.reverse ++ rest) (hW : (rest.map fun v => v.category).sum ≤ 8) (hdg : decode cc pc = .ok (.invokestatic index, 3)) (hZ : uZ D cs a bm ao ad F s g f fd mu H locs) (hc : cells + 4 ≤ R.cells) (hs : slots + 24 ≤ R.slots)
    (kk : ∀ (r : Int32) (g' : St) (f' : Nat → Int64) (H : Heap) (locs : List Loc), post r (g', f') → uZ D cs a bm ao ad F s g' f' fd mu H locs → W p l e R s m args below meth c H locs (cells + 4) (slots + 24) Q (F0 m (pc + 3) ls (.int r :: rest))) : W p l e R s m args below meth c H locs cells slots Q (F0 m pc ls st0) := by
  subst hst
  have hF := A_free hC (uZ_L hZ) hZ.2.2
  have hPX : va_P D vwCl (wL cs a ao (g, f)) H := va_P.app (uZ_g hZ) (uZ_o hZ)
  refine vx_calli (vx_runSX (As := As) (rest := rest) hC.1 (hM H.size) cw ⟨uPg_blind, fun U hU hW => uPg_at hC hPX (uZ_L hZ) hZ.2.2 hU hW⟩ rfl hn hl.1 rfl (lv_room hW) hdg ⟨hc, hs⟩) hZ.2.2 (fun q _ h => hF q h) hF (fun q _ h => hF q h)
    (fun E ce q9 u t H1 l1 _ _ hf _ _ _ _ _ _ _ => hf.elim) (fun r u t H1 l1 ht _ hp hB _ hk1 hS1 => ?_)
  have hY := keepB (uZ_L hZ) (va_P.app (uZ_d hZ) (uZ_m hZ)) hk1
  have hB1 : va_P D vwCl (gW cs a u.1 ++ wOut cs ao u.2) H1 := by rw [← ht]; exact hB
  exact kk r u.1 u.2 H1 l1 hp (uZ_mk (uZ_dis hZ) hS1 (va_P_l hB1) (va_P_r hB1) (va_P_l hY) (va_P_r hY))
theorem Z_callD {post : Int32 → St × (Nat → UInt64) → Prop} (hC : uC p m c cc nL s args Ts own D cs az F) (hM : uLi l y ws rm D cs az (wD cs a ad) As (g, fd) post) (cw : vx_CSW R s args own index y bytes maxL (some rt) hh ws rm 4 24 k)
    (hn : As.length = k) (hl : lv_has ls nL lv) (hst : st0 = As.reverse ++ rest) (hW : (rest.map fun v => v.category).sum ≤ 8) (hdg : decode cc pc = .ok (.invokestatic index, 3)) (hZ : uZ D cs a bm ao ad F s g f fd mu H locs) (hc : cells + 4 ≤ R.cells) (hs : slots + 24 ≤ R.slots)
    (kk : ∀ (r : Int32) (g' : St) (fd' : Nat → UInt64) (H : Heap) (locs : List Loc), post r (g', fd') → uZ D cs a bm ao ad F s g' f fd' mu H locs → W p l e R s m args below meth c H locs (cells + 4) (slots + 24) Q (F0 m (pc + 3) ls (.int r :: rest))) : W p l e R s m args below meth c H locs cells slots Q (F0 m pc ls st0) := by
  subst hst
  have hF := A_free hC (uZ_D hZ) hZ.2.2
  have hPX : va_P D vwCl (wD cs a ad (g, fd)) H := va_P.app (uZ_g hZ) (uZ_d hZ)
  refine vx_calli (vx_runSX (As := As) (rest := rest) hC.1 (hM H.size) cw ⟨uPg_blind, fun U hU hW => uPg_at hC hPX (uZ_D hZ) hZ.2.2 hU hW⟩ rfl hn hl.1 rfl (lv_room hW) hdg ⟨hc, hs⟩) hZ.2.2 (fun q _ h => hF q h) hF (fun q _ h => hF q h)
    (fun E ce q9 u t H1 l1 _ _ hf _ _ _ _ _ _ _ => hf.elim) (fun r u t H1 l1 ht _ hp hB _ hk1 hS1 => ?_)
  have hY := keepB (uZ_D hZ) (va_P.app (uZ_o hZ) (uZ_m hZ)) hk1
  have hB1 : va_P D vwCl (gW cs a u.1 ++ wOutD cs ad u.2) H1 := by rw [← ht]; exact hB
  exact kk r u.1 u.2 H1 l1 hp (uZ_mk (uZ_dis hZ) hS1 (va_P_l hB1) (va_P_l hY) (va_P_r hB1) (va_P_r hY))
theorem Z_callMi {post : Int32 → St → Prop} (hC : uC p m c cc nL s args Ts own D cs az F) (hM : uMi l y ws rm D cs az (mW cs bm) (.ref (bm 0) :: As) mu post) (cw : CallW R s args own RX7 index y bytes maxL (some rt) ws rm 0 0 k)
    (hn : As.length = k) (hl : lv_has ls nL lv) (hst : st0 = As.reverse ++ .ref (bm 0) :: rest) (hW : (rest.map fun v => v.category).sum ≤ 8) (hdg : decode cc pc = .ok (.invokevirtual index, 3)) (hZ : uZ D cs a bm ao ad F s g f fd mu H locs) (hc : cells ≤ R.cells) (hs : slots ≤ R.slots)
    (kk : ∀ (r : Int32) (mu' : St) (H : Heap) (locs : List Loc), post r mu' → uZ D cs a bm ao ad F s g f fd mu' H locs → W p l e R s m args below meth c H locs cells slots Q (F0 m (pc + 3) ls (.int r :: rest))) : W p l e R s m args below meth c H locs cells slots Q (F0 m pc ls st0) := by
  subst hst
  have hF := A_free hC (uZ_M hZ) hZ.2.2
  refine va_calli (va_runV (As := As) (rest := rest) hC.1 (hM H.size) cw ⟨uP_blind, va_recv hC.2.1 (uZ_m hZ) (ci := 9) rfl (uW_obj (f_model (a := bm)).1 ((f_model (a := bm)).2 _)), fun U hU hW => uP_at hC.2.1 hC.2.2.1 hC.2.2.2 ⟨uZ_m hZ, va_D_l (uZ_M hZ), hZ.2.2⟩ hU hW⟩ rfl hn hl.1 rfl (lv_room hW) hdg ⟨hc, hs⟩) hZ.2.2 (fun q _ h => hF q h) hF
    (fun r u t H1 l1 ht _ hp hB _ hk1 hS1 => ?_)
  have hY := keepB (uZ_M hZ) (va_P.app (uZ_g hZ) (va_P.app (uZ_o hZ) (uZ_d hZ))) hk1
  exact kk r u H1 l1 hp (uZ_mk (uZ_dis hZ) hS1 (va_P_l hY) (va_P_l (va_P_r hY)) (va_P_r (va_P_r hY)) (by rw [← ht]; exact hB))
theorem Z_callMl {post : Int64 → St → Prop} (hC : uC p m c cc nL s args Ts own D cs az F) (hM : uMl l y ws rm D cs az (mW cs bm) (.ref (bm 0) :: As) mu post) (cw : CallW R s args own RX7 index y bytes maxL (some rt) ws rm 0 0 k)
    (hn : As.length = k) (hl : lv_has ls nL lv) (hst : st0 = As.reverse ++ .ref (bm 0) :: rest) (hW : (rest.map fun v => v.category).sum ≤ 8) (hdg : decode cc pc = .ok (.invokevirtual index, 3)) (hZ : uZ D cs a bm ao ad F s g f fd mu H locs) (hc : cells ≤ R.cells) (hs : slots ≤ R.slots)
    (kk : ∀ (r : Int64) (mu' : St) (H : Heap) (locs : List Loc), post r mu' → uZ D cs a bm ao ad F s g f fd mu' H locs → W p l e R s m args below meth c H locs cells slots Q (F0 m (pc + 3) ls (.long r :: rest))) : W p l e R s m args below meth c H locs cells slots Q (F0 m pc ls st0) := by
  subst hst
  have hF := A_free hC (uZ_M hZ) hZ.2.2
  refine va_calll (va_runV (As := As) (rest := rest) hC.1 (hM H.size) cw ⟨uP_blind, va_recv hC.2.1 (uZ_m hZ) (ci := 9) rfl (uW_obj (f_model (a := bm)).1 ((f_model (a := bm)).2 _)), fun U hU hW => uP_at hC.2.1 hC.2.2.1 hC.2.2.2 ⟨uZ_m hZ, va_D_l (uZ_M hZ), hZ.2.2⟩ hU hW⟩ rfl hn hl.1 rfl (lv_room hW) hdg ⟨hc, hs⟩) hZ.2.2 (fun q _ h => hF q h) hF
    (fun r u t H1 l1 ht _ hp hB _ hk1 hS1 => ?_)
  have hY := keepB (uZ_M hZ) (va_P.app (uZ_g hZ) (va_P.app (uZ_o hZ) (uZ_d hZ))) hk1
  exact kk r u H1 l1 hp (uZ_mk (uZ_dis hZ) hS1 (va_P_l hY) (va_P_l (va_P_r hY)) (va_P_r (va_P_r hY)) (by rw [← ht]; exact hB))
theorem Z_callMf {post : UInt32 → St → Prop} (hC : uC p m c cc nL s args Ts own D cs az F) (hM : uMf l y ws rm D cs az (mW cs bm) (.ref (bm 0) :: As) mu post) (cw : CallW R s args own RX7 index y bytes maxL (some rt) ws rm 0 0 k)
    (hn : As.length = k) (hl : lv_has ls nL lv) (hst : st0 = As.reverse ++ .ref (bm 0) :: rest) (hW : (rest.map fun v => v.category).sum ≤ 8) (hdg : decode cc pc = .ok (.invokevirtual index, 3)) (hZ : uZ D cs a bm ao ad F s g f fd mu H locs) (hc : cells ≤ R.cells) (hs : slots ≤ R.slots)
    (kk : ∀ (r : UInt32) (mu' : St) (H : Heap) (locs : List Loc), post r mu' → uZ D cs a bm ao ad F s g f fd mu' H locs → W p l e R s m args below meth c H locs cells slots Q (F0 m (pc + 3) ls (.float r :: rest))) : W p l e R s m args below meth c H locs cells slots Q (F0 m pc ls st0) := by
  subst hst
  have hF := A_free hC (uZ_M hZ) hZ.2.2
  refine va_callf (va_runV (As := As) (rest := rest) hC.1 (hM H.size) cw ⟨uP_blind, va_recv hC.2.1 (uZ_m hZ) (ci := 9) rfl (uW_obj (f_model (a := bm)).1 ((f_model (a := bm)).2 _)), fun U hU hW => uP_at hC.2.1 hC.2.2.1 hC.2.2.2 ⟨uZ_m hZ, va_D_l (uZ_M hZ), hZ.2.2⟩ hU hW⟩ rfl hn hl.1 rfl (lv_room hW) hdg ⟨hc, hs⟩) hZ.2.2 (fun q _ h => hF q h) hF
    (fun r u t H1 l1 ht _ hp hB _ hk1 hS1 => ?_)
  have hY := keepB (uZ_M hZ) (va_P.app (uZ_g hZ) (va_P.app (uZ_o hZ) (uZ_d hZ))) hk1
  exact kk r u H1 l1 hp (uZ_mk (uZ_dis hZ) hS1 (va_P_l hY) (va_P_l (va_P_r hY)) (va_P_r (va_P_r hY)) (by rw [← ht]; exact hB))
theorem Z_callMd {post : UInt64 → St → Prop} (hC : uC p m c cc nL s args Ts own D cs az F) (hM : uMd l y ws rm D cs az (mW cs bm) (.ref (bm 0) :: As) mu post) (cw : CallW R s args own RX7 index y bytes maxL (some rt) ws rm 0 0 k)
    (hn : As.length = k) (hl : lv_has ls nL lv) (hst : st0 = As.reverse ++ .ref (bm 0) :: rest) (hW : (rest.map fun v => v.category).sum ≤ 8) (hdg : decode cc pc = .ok (.invokevirtual index, 3)) (hZ : uZ D cs a bm ao ad F s g f fd mu H locs) (hc : cells ≤ R.cells) (hs : slots ≤ R.slots)
    (kk : ∀ (r : UInt64) (mu' : St) (H : Heap) (locs : List Loc), post r mu' → uZ D cs a bm ao ad F s g f fd mu' H locs → W p l e R s m args below meth c H locs cells slots Q (F0 m (pc + 3) ls (.double r :: rest))) : W p l e R s m args below meth c H locs cells slots Q (F0 m pc ls st0) := by
  subst hst
  have hF := A_free hC (uZ_M hZ) hZ.2.2
  refine va_calld (va_runV (As := As) (rest := rest) hC.1 (hM H.size) cw ⟨uP_blind, va_recv hC.2.1 (uZ_m hZ) (ci := 9) rfl (uW_obj (f_model (a := bm)).1 ((f_model (a := bm)).2 _)), fun U hU hW => uP_at hC.2.1 hC.2.2.1 hC.2.2.2 ⟨uZ_m hZ, va_D_l (uZ_M hZ), hZ.2.2⟩ hU hW⟩ rfl hn hl.1 rfl (lv_room hW) hdg ⟨hc, hs⟩) hZ.2.2 (fun q _ h => hF q h) hF
    (fun r u t H1 l1 ht _ hp hB _ hk1 hS1 => ?_)
  have hY := keepB (uZ_M hZ) (va_P.app (uZ_g hZ) (va_P.app (uZ_o hZ) (uZ_d hZ))) hk1
  exact kk r u H1 l1 hp (uZ_mk (uZ_dis hZ) hS1 (va_P_l hY) (va_P_l (va_P_r hY)) (va_P_r (va_P_r hY)) (by rw [← ht]; exact hB))
theorem Z_callGi {post : Int32 → St → Prop} (hC : uC p m c cc nL s args Ts own D cs az F) (hM : uMi l y ws rm D cs az (gW cs a) (.ref (a 0) :: As) g post) (cw : CallW R s args own RX6 index y bytes maxL (some rt) ws rm 0 0 k)
    (hn : As.length = k) (hl : lv_has ls nL lv) (hst : st0 = As.reverse ++ .ref (a 0) :: rest) (hW : (rest.map fun v => v.category).sum ≤ 8) (hdg : decode cc pc = .ok (.invokevirtual index, 3)) (hZ : uZ D cs a bm ao ad F s g f fd mu H locs) (hc : cells ≤ R.cells) (hs : slots ≤ R.slots)
    (kk : ∀ (r : Int32) (g' : St) (H : Heap) (locs : List Loc), post r g' → uZ D cs a bm ao ad F s g' f fd mu H locs → W p l e R s m args below meth c H locs cells slots Q (F0 m (pc + 3) ls (.int r :: rest))) : W p l e R s m args below meth c H locs cells slots Q (F0 m pc ls st0) := by
  subst hst
  have hF := A_free hC hZ.2.1 hZ.2.2
  refine va_calli (va_runV (As := As) (rest := rest) hC.1 (hM H.size) cw ⟨uP_blind, va_recv hC.2.1 (uZ_g hZ) (ci := 8) rfl (uW_obj (f_game (cs := cs) (a := a)).1 ((f_game (cs := cs) (a := a)).2 _)), fun U hU hW => uP_at hC.2.1 hC.2.2.1 hC.2.2.2 ⟨uZ_g hZ, va_D_l hZ.2.1, hZ.2.2⟩ hU hW⟩ rfl hn hl.1 rfl (lv_room hW) hdg ⟨hc, hs⟩) hZ.2.2 (fun q _ h => hF q h) hF
    (fun r u t H1 l1 ht _ hp hB _ hk1 hS1 => ?_)
  have hY := keepB hZ.2.1 (va_P.app (uZ_o hZ) (va_P.app (uZ_d hZ) (uZ_m hZ))) hk1
  exact kk r u H1 l1 hp (uZ_mk (uZ_dis hZ) hS1 (by rw [← ht]; exact hB) (va_P_l hY) (va_P_l (va_P_r hY)) (va_P_r (va_P_r hY)))
theorem Z_callGl {post : Int64 → St → Prop} (hC : uC p m c cc nL s args Ts own D cs az F) (hM : uMl l y ws rm D cs az (gW cs a) (.ref (a 0) :: As) g post) (cw : CallW R s args own RX6 index y bytes maxL (some rt) ws rm 0 0 k)
    (hn : As.length = k) (hl : lv_has ls nL lv) (hst : st0 = As.reverse ++ .ref (a 0) :: rest) (hW : (rest.map fun v => v.category).sum ≤ 8) (hdg : decode cc pc = .ok (.invokevirtual index, 3)) (hZ : uZ D cs a bm ao ad F s g f fd mu H locs) (hc : cells ≤ R.cells) (hs : slots ≤ R.slots)
    (kk : ∀ (r : Int64) (g' : St) (H : Heap) (locs : List Loc), post r g' → uZ D cs a bm ao ad F s g' f fd mu H locs → W p l e R s m args below meth c H locs cells slots Q (F0 m (pc + 3) ls (.long r :: rest))) : W p l e R s m args below meth c H locs cells slots Q (F0 m pc ls st0) := by
  subst hst
  have hF := A_free hC hZ.2.1 hZ.2.2
  refine va_calll (va_runV (As := As) (rest := rest) hC.1 (hM H.size) cw ⟨uP_blind, va_recv hC.2.1 (uZ_g hZ) (ci := 8) rfl (uW_obj (f_game (cs := cs) (a := a)).1 ((f_game (cs := cs) (a := a)).2 _)), fun U hU hW => uP_at hC.2.1 hC.2.2.1 hC.2.2.2 ⟨uZ_g hZ, va_D_l hZ.2.1, hZ.2.2⟩ hU hW⟩ rfl hn hl.1 rfl (lv_room hW) hdg ⟨hc, hs⟩) hZ.2.2 (fun q _ h => hF q h) hF
    (fun r u t H1 l1 ht _ hp hB _ hk1 hS1 => ?_)
  have hY := keepB hZ.2.1 (va_P.app (uZ_o hZ) (va_P.app (uZ_d hZ) (uZ_m hZ))) hk1
  exact kk r u H1 l1 hp (uZ_mk (uZ_dis hZ) hS1 (by rw [← ht]; exact hB) (va_P_l hY) (va_P_l (va_P_r hY)) (va_P_r (va_P_r hY)))
theorem Z_lald (hC : uC p m c cc nL s args Ts own D cs az F) (hZ : uZ D cs a bm ao ad F s g f fd mu H locs) (hdg : decode cc pc = .ok (.laload, 1)) (kk : W p l e R s m args below meth c H locs cells slots Q (F0 m (pc + 1) ls (.long (f 0) :: rest))) : W p l e R s m args below meth c H locs cells slots Q (F0 m pc ls (.int 0 :: .ref ao :: rest)) :=
  va_lald hC.1.1 hC.1.2.1 hC.2.1 (uZ_o hZ) 0 5 rfl rfl (by unfold vp_in; decide) hdg kk
theorem Z_dald (hC : uC p m c cc nL s args Ts own D cs az F) (hZ : uZ D cs a bm ao ad F s g f fd mu H locs) (hdg : decode cc pc = .ok (.daload, 1)) (kk : W p l e R s m args below meth c H locs cells slots Q (F0 m (pc + 1) ls (.double (fd 0) :: rest))) : W p l e R s m args below meth c H locs cells slots Q (F0 m pc ls (.int 0 :: .ref ad :: rest)) :=
  va_dald hC.1.1 hC.1.2.1 hC.2.1 (uZ_d hZ) 0 6 rfl rfl (by unfold vp_in; decide) hdg kk
theorem Z_sld (hC : uC p m c cc nL s args Ts own D cs az F) (hZ : uZ D cs a bm ao ad F s g f fd mu H locs) {b L : Nat} {xs : Nat → Int32} (hX : va_X b L xs s s.heap) (hbl : b < s.heap.size) (hbF : ¬ F b) {i v : Int32} (hin : vp_in i L) (hv : xs i.toNatClampNeg = v) (hdg : decode cc pc = .ok (.iaload, 1)) (kk : W p l e R s m args below meth c H locs cells slots Q (F0 m (pc + 1) ls (.int v :: rest))) : W p l e R s m args below meth c H locs cells slots Q (F0 m pc ls (.int i :: .ref b :: rest)) :=
  va_sld hC.1.1 hC.1.2.1 hX hbl hbF hZ.2.2 hin hdg (by rw [hv]; exact kk)
end ZR
