/-! PART 07: what the walks use beside: fields written, statics read, switches -/
theorem vp_lt {i : Int32} {N : Nat} (h : vp_in i N) : i.toNatClampNeg < N := by
  unfold vp_in at h
  omega
theorem zF.k0 {az : Nat → Nat} {F : Nat → Prop} {U : State} {H : Heap} (h : zF az F U H) : zT "KIND_SIGHTS" 3 kSights (az 0) F U H := h.2.2.2.1.1
theorem zF.k1 {az : Nat → Nat} {F : Nat → Prop} {U : State} {H : Heap} (h : zF az F U H) : zT "KIND_STEPS" 3 kSteps (az 1) F U H := h.2.2.2.1.2.1
theorem zF.k2 {az : Nat → Nat} {F : Nat → Prop} {U : State} {H : Heap} (h : zF az F U H) : zT "KIND_POWERS" 3 kPowers (az 2) F U H := h.2.2.2.1.2.2.1
theorem zF.k3 {az : Nat → Nat} {F : Nat → Prop} {U : State} {H : Heap} (h : zF az F U H) : zT "COLUMN_MOVES" 8 kCols (az 3) F U H := h.2.2.2.1.2.2.2.1
theorem zF.k4 {az : Nat → Nat} {F : Nat → Prop} {U : State} {H : Heap} (h : zF az F U H) : zT "ROW_MOVES" 8 kRows (az 4) F U H := h.2.2.2.1.2.2.2.2
theorem zF.sk0 {az : Nat → Nat} {F : Nat → Prop} {U : State} {H : Heap} (h : zF az F U H) : vk_R "SeedBattle$Land" 16 "ppppwwhx" (az 5) U := h.2.2.2.2.1.2.1
theorem zF.sk1 {az : Nat → Nat} {F : Nat → Prop} {U : State} {H : Heap} (h : zF az F U H) : vk_R "SeedBattle" 87 "sat" (az 6) U := h.2.2.2.2.1.2.2
section GR2
variable {p : Program} {l : Launch} {e : Env} {R : Room} {s : State} {m : MethodId} {args : Array Value} {below : List Frame} {meth : Method} {c : Code} {H : Heap} {locs : List Loc} {cells slots : Nat} {Q : State → Prop}
variable {pc : Nat} {ls : Array Slot} {rest : List Value} {cc : ByteArray} {nL : Nat} {Ts : List Cond} {own : String} {D : va_G} {cs a az : Nat → Nat} {F : Nat → Prop} {n : Nat} {A : Nat → Option (Nat × Nat)} {O : (Nat → Int32) → Nat → va_E} {g : St}
theorem G_getsN (hC : uC p m c cc nL s args Ts own D cs az F) (hE : uE D n A O cs a F s g H locs) {nm : String} {N t index : Nat} {f : Nat → Int32} (hT : zT nm N f t F s s.heap) (hlink : Cond.fieldLinkNest own index "SeedBattle" nm "[I" "SeedBattle" ∈ nestW) (hdg : decode cc pc = .ok (.getstatic index, 3))
    (kk : W p l e R s m args below meth c H locs cells slots Q (F0 m (pc + 3) ls (.ref t :: rest))) : W p l e R s m args below meth c H locs cells slots Q (F0 m pc ls rest) :=
  va_getsN hC.1.1 hC.1.2.1 hT.1 hE.2.2 hC.1.2.2.2.1 (va_Nw.use rfl (hC.2.2.2.2.1 _ hlink)) (fun _ h => h) hdg kk
theorem G_tld (hC : uC p m c cc nL s args Ts own D cs az F) (hE : uE D n A O cs a F s g H locs) {nm : String} {N t : Nat} {f : Nat → Int32} (hT : zT nm N f t F s s.heap) {i : Int32} (hin : vp_in i N) (hdg : decode cc pc = .ok (.iaload, 1))
    (kk : W p l e R s m args below meth c H locs cells slots Q (F0 m (pc + 1) ls (.int (f i.toNatClampNeg) :: rest))) : W p l e R s m args below meth c H locs cells slots Q (F0 m pc ls (.int i :: .ref t :: rest)) :=
  va_ti hC.1.1 hC.1.2.1 hT.2 hE.2.2 hin rfl hdg kk
end GR2
theorem p_game_seedNow_e {a : Nat → Nat} {g : St} {v : Int32} : ([.ref (a 1), .ref (a 11), .ref (a 21), .ref (a 24), .ref (a 25), .ref (a 26), .ref (a 27), .int (g.2 0), .int (g.2 1), .int (g.2 2)] : List Value).set 7 (.int v) = [.ref (a 1), .ref (a 11), .ref (a 21), .ref (a 24), .ref (a 25), .ref (a 26), .ref (a 27), .int ((sS g 0 v).2 0), .int ((sS g 0 v).2 1), .int ((sS g 0 v).2 2)] := by simp [sS]
theorem p_game_seedNow_o {cs a : Nat → Nat} {g : St} {v : Int32} : ∀ q, q < 52 → q ≠ 0 → gO cs a (sS g 0 v).2 q = gO cs a g.2 q := by
  intro q _ hn
  apply gO_off
  split <;> simp [sS] <;> omega
theorem p_game_turnsDone_e {a : Nat → Nat} {g : St} {v : Int32} : ([.ref (a 1), .ref (a 11), .ref (a 21), .ref (a 24), .ref (a 25), .ref (a 26), .ref (a 27), .int (g.2 0), .int (g.2 1), .int (g.2 2)] : List Value).set 8 (.int v) = [.ref (a 1), .ref (a 11), .ref (a 21), .ref (a 24), .ref (a 25), .ref (a 26), .ref (a 27), .int ((sS g 1 v).2 0), .int ((sS g 1 v).2 1), .int ((sS g 1 v).2 2)] := by simp [sS]
theorem p_game_turnsDone_o {cs a : Nat → Nat} {g : St} {v : Int32} : ∀ q, q < 52 → q ≠ 0 → gO cs a (sS g 1 v).2 q = gO cs a g.2 q := by
  intro q _ hn
  apply gO_off
  split <;> simp [sS] <;> omega
theorem p_game_saved_e {a : Nat → Nat} {g : St} {v : Int32} : ([.ref (a 1), .ref (a 11), .ref (a 21), .ref (a 24), .ref (a 25), .ref (a 26), .ref (a 27), .int (g.2 0), .int (g.2 1), .int (g.2 2)] : List Value).set 9 (.int v) = [.ref (a 1), .ref (a 11), .ref (a 21), .ref (a 24), .ref (a 25), .ref (a 26), .ref (a 27), .int ((sS g 2 v).2 0), .int ((sS g 2 v).2 1), .int ((sS g 2 v).2 2)] := by simp [sS]
theorem p_game_saved_o {cs a : Nat → Nat} {g : St} {v : Int32} : ∀ q, q < 52 → q ≠ 0 → gO cs a (sS g 2 v).2 q = gO cs a g.2 q := by
  intro q _ hn
  apply gO_off
  split <;> simp [sS] <;> omega
theorem p_units_count_e {a : Nat → Nat} {g : St} {v : Int32} {w : Nat} : ([.ref (a (5 + 10 * w)), .ref (a (6 + 10 * w)), .ref (a (7 + 10 * w)), .ref (a (8 + 10 * w)), .int (g.2 (3 + w))] : List Value).set 4 (.int v) = [.ref (a (5 + 10 * w)), .ref (a (6 + 10 * w)), .ref (a (7 + 10 * w)), .ref (a (8 + 10 * w)), .int ((sS g (3 + w) v).2 (3 + w))] := by simp [sS]
theorem p_units_count_o {cs a : Nat → Nat} {g : St} {v : Int32} {w : Nat} (h : w < 2) : ∀ q, q < 52 → q ≠ 4 + 10 * w → gO cs a (sS g (3 + w) v).2 q = gO cs a g.2 q := by
  intro q _ hn
  apply gO_off
  split <;> simp [sS] <;> omega
theorem p_index_count_e {a : Nat → Nat} {g : St} {v : Int32} {p : Nat} : ([.ref (a (29 + 2 * p)), .int (g.2 (10 + p))] : List Value).set 1 (.int v) = [.ref (a (29 + 2 * p)), .int ((sS g (10 + p) v).2 (10 + p))] := by simp [sS]
theorem p_index_count_o {cs a : Nat → Nat} {g : St} {v : Int32} {p : Nat} (h : p < 4) : ∀ q, q < 52 → q ≠ 28 + 2 * p → gO cs a (sS g (10 + p) v).2 q = gO cs a g.2 q := by
  intro q _ hn
  apply gO_off
  split <;> simp [sS] <;> omega
theorem p_copy_size_e {a : Nat → Nat} {g : St} {v : Int32} {p : Nat} : ([.ref (a (37 + 4 * p)), .ref (a (38 + 4 * p)), .ref (a (39 + 4 * p)), .int (g.2 (20 + p)), .int (g.2 (24 + p)), .int (g.2 (28 + p)), .int (g.2 (32 + p))] : List Value).set 3 (.int v) = [.ref (a (37 + 4 * p)), .ref (a (38 + 4 * p)), .ref (a (39 + 4 * p)), .int ((sS g (20 + p) v).2 (20 + p)), .int ((sS g (20 + p) v).2 (24 + p)), .int ((sS g (20 + p) v).2 (28 + p)), .int ((sS g (20 + p) v).2 (32 + p))] := by simp [sS]
theorem p_copy_size_o {cs a : Nat → Nat} {g : St} {v : Int32} {p : Nat} (h : p < 4) : ∀ q, q < 52 → q ≠ 36 + 4 * p → gO cs a (sS g (20 + p) v).2 q = gO cs a g.2 q := by
  intro q _ hn
  apply gO_off
  split <;> simp [sS] <;> omega
theorem p_copy_brokenBits_e {a : Nat → Nat} {g : St} {v : Int32} {p : Nat} : ([.ref (a (37 + 4 * p)), .ref (a (38 + 4 * p)), .ref (a (39 + 4 * p)), .int (g.2 (20 + p)), .int (g.2 (24 + p)), .int (g.2 (28 + p)), .int (g.2 (32 + p))] : List Value).set 4 (.int v) = [.ref (a (37 + 4 * p)), .ref (a (38 + 4 * p)), .ref (a (39 + 4 * p)), .int ((sS g (24 + p) v).2 (20 + p)), .int ((sS g (24 + p) v).2 (24 + p)), .int ((sS g (24 + p) v).2 (28 + p)), .int ((sS g (24 + p) v).2 (32 + p))] := by simp [sS]
theorem p_copy_brokenBits_o {cs a : Nat → Nat} {g : St} {v : Int32} {p : Nat} (h : p < 4) : ∀ q, q < 52 → q ≠ 36 + 4 * p → gO cs a (sS g (24 + p) v).2 q = gO cs a g.2 q := by
  intro q _ hn
  apply gO_off
  split <;> simp [sS] <;> omega
theorem p_copy_allyBits_e {a : Nat → Nat} {g : St} {v : Int32} {p : Nat} : ([.ref (a (37 + 4 * p)), .ref (a (38 + 4 * p)), .ref (a (39 + 4 * p)), .int (g.2 (20 + p)), .int (g.2 (24 + p)), .int (g.2 (28 + p)), .int (g.2 (32 + p))] : List Value).set 5 (.int v) = [.ref (a (37 + 4 * p)), .ref (a (38 + 4 * p)), .ref (a (39 + 4 * p)), .int ((sS g (28 + p) v).2 (20 + p)), .int ((sS g (28 + p) v).2 (24 + p)), .int ((sS g (28 + p) v).2 (28 + p)), .int ((sS g (28 + p) v).2 (32 + p))] := by simp [sS]
theorem p_copy_allyBits_o {cs a : Nat → Nat} {g : St} {v : Int32} {p : Nat} (h : p < 4) : ∀ q, q < 52 → q ≠ 36 + 4 * p → gO cs a (sS g (28 + p) v).2 q = gO cs a g.2 q := by
  intro q _ hn
  apply gO_off
  split <;> simp [sS] <;> omega
theorem p_copy_allyGone_e {a : Nat → Nat} {g : St} {v : Int32} {p : Nat} : ([.ref (a (37 + 4 * p)), .ref (a (38 + 4 * p)), .ref (a (39 + 4 * p)), .int (g.2 (20 + p)), .int (g.2 (24 + p)), .int (g.2 (28 + p)), .int (g.2 (32 + p))] : List Value).set 6 (.int v) = [.ref (a (37 + 4 * p)), .ref (a (38 + 4 * p)), .ref (a (39 + 4 * p)), .int ((sS g (32 + p) v).2 (20 + p)), .int ((sS g (32 + p) v).2 (24 + p)), .int ((sS g (32 + p) v).2 (28 + p)), .int ((sS g (32 + p) v).2 (32 + p))] := by simp [sS]
theorem p_copy_allyGone_o {cs a : Nat → Nat} {g : St} {v : Int32} {p : Nat} (h : p < 4) : ∀ q, q < 52 → q ≠ 36 + 4 * p → gO cs a (sS g (32 + p) v).2 q = gO cs a g.2 q := by
  intro q _ hn
  apply gO_off
  split <;> simp [sS] <;> omega
