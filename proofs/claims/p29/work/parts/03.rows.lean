/-! PART 03: what holds of every start: statics, strings, links of the nest; and the rows of the kit over worlds of this form -/
def nestW : List Cond := [
  .fieldLinkNest "SeedBattle" 170 "SeedBattle$Index" "count" "I" "SeedBattle",
  .fieldLinkNest "SeedBattle" 206 "SeedBattle$Copy" "size" "I" "SeedBattle",
  .fieldLinkNest "SeedBattle" 257 "SeedBattle$Copy" "allyBits" "I" "SeedBattle",
  .fieldLinkNest "SeedBattle" 47 "SeedBattle$Field" "land" "LSeedBattle$Land;" "SeedBattle",
  .fieldLinkNest "SeedBattle" 57 "SeedBattle$Field" "units" "LSeedBattle$Units;" "SeedBattle",
  .fieldLinkNest "SeedBattle" 61 "SeedBattle$Units" "count" "I" "SeedBattle",
  .fieldLinkNest "SeedBattle$Field" 46 "SeedBattle$Units" "count" "I" "SeedBattle",
  .fieldLinkNest "SeedBattle$Copy" 21 "SeedBattle$Index" "count" "I" "SeedBattle",
  .fieldLinkNest "SeedBattle$Land" 28 "SeedBattle" "COLUMN_MOVES" "[I" "SeedBattle",
  .fieldLinkNest "SeedBattle$Land" 32 "SeedBattle" "ROW_MOVES" "[I" "SeedBattle",
  .fieldLinkNest "SeedBattle$Units" 36 "SeedBattle" "KIND_SIGHTS" "[I" "SeedBattle",
  .fieldLinkNest "SeedBattle$Units" 39 "SeedBattle" "KIND_STEPS" "[I" "SeedBattle",
  .fieldLinkNest "SeedBattle$Units" 42 "SeedBattle" "KIND_POWERS" "[I" "SeedBattle",
  .methodLinkNest "SeedBattle" 45 ⟨"SeedBattle$Index", "<init>", "()V"⟩ "SeedBattle",
  .methodLinkNest "SeedBattle" 46 ⟨"SeedBattle$Copy", "<init>", "()V"⟩ "SeedBattle",
  .methodLinkNest "SeedBattle" 9 ⟨"SeedBattle$Field", "<init>", "()V"⟩ "SeedBattle",
  .methodLinkNest "SeedBattle$Copy" 60 ⟨"SeedBattle", "turnOf", "(I)I"⟩ "SeedBattle",
  .methodLinkNest "SeedBattle$Copy" 63 ⟨"SeedBattle", "placeOf", "(I)I"⟩ "SeedBattle",
  .methodLinkNest "SeedBattle$Copy" 66 ⟨"SeedBattle", "unitOf", "(I)I"⟩ "SeedBattle",
  .methodLinkNest "SeedBattle$Field" 11 ⟨"SeedBattle$Land", "<init>", "()V"⟩ "SeedBattle",
  .methodLinkNest "SeedBattle$Field" 20 ⟨"SeedBattle$Units", "<init>", "()V"⟩ "SeedBattle",
  .methodLinkNest "SeedBattle$Index" 23 ⟨"SeedBattle", "numberFor", "(III)I"⟩ "SeedBattle",
  .methodLinkNest "SeedBattle$Index" 30 ⟨"SeedBattle", "turnOf", "(I)I"⟩ "SeedBattle",
  .methodLinkNest "SeedBattle$Index" 34 ⟨"SeedBattle", "unitOf", "(I)I"⟩ "SeedBattle",
  .methodLinkNest "SeedBattle$Index" 37 ⟨"SeedBattle", "placeOf", "(I)I"⟩ "SeedBattle",
  .methodLinkNest "SeedBattle$Land" 24 ⟨"SeedBattle", "isCell", "(I)Z"⟩ "SeedBattle"]
theorem nestW_warm {s U : State} (hW : s.WarmedH U.vm) (h : ∀ w ∈ nestW, va_Nw w s) : ∀ w ∈ nestW, va_Nw w U := by
  intro w hw
  have h1 := h w hw
  simp only [nestW, List.mem_cons, List.not_mem_nil, or_false] at hw
  rcases hw with rfl | rfl | rfl | rfl | rfl | rfl | rfl | rfl | rfl | rfl | rfl | rfl | rfl | rfl | rfl | rfl | rfl | rfl | rfl | rfl | rfl | rfl | rfl | rfl | rfl | rfl <;> first | exact va_Nw.warmF hW h1 | exact va_Nw.warmM hW h1
theorem nestW_same {u U : State} (hv : U.vm = u.vm) (h : ∀ w ∈ nestW, va_Nw w u) : ∀ w ∈ nestW, va_Nw w U := by
  intro w hw
  have h1 := h w hw
  simp only [nestW, List.mem_cons, List.not_mem_nil, or_false] at hw
  rcases hw with rfl | rfl | rfl | rfl | rfl | rfl | rfl | rfl | rfl | rfl | rfl | rfl | rfl | rfl | rfl | rfl | rfl | rfl | rfl | rfl | rfl | rfl | rfl | rfl | rfl | rfl <;> exact va_Nw.same rfl hv.symm h1
/-- the texts of what is thrown -/
def strW : List (Nat × String) := [(105, "the cell is water or taken"), (111, "no more units, or a turn was done"), (120, "no such direction"), (132, "the unit is lost or has all its orders"), (137, "99 turns were done"), (162, "both players are the same"), (173, "no such index"), (187, "no such thing"), (194, "no sighting on this cell"), (200, "no sighting of this unit"), (224, "no such block"), (232, "no such number"), (234, "its block is broken"), (251, "a block is broken"), (269, "there are no units"), (272, "there are no sightings"), (283, "no such player"), (288, "no such cell"), (293, "no such unit"), (295, "there is no save"), (69, "there is a unit"), (97, "no such kind")]
/-- what is thrown: its classes' constructors, and which catches take which -/
def excW : List Cond := [.declares ⟨"java/lang/RuntimeException", "<init>", "(Ljava/lang/String;)V"⟩, .declares ⟨"java/lang/Exception", "<init>", "(Ljava/lang/String;)V"⟩, .declares ⟨"java/lang/Throwable", "<init>", "(Ljava/lang/String;)V"⟩, .castable "java/lang/IllegalStateException" "java/lang/IllegalStateException", .castable "java/lang/IllegalArgumentException" "java/lang/IllegalArgumentException", .castable "java/lang/IndexOutOfBoundsException" "java/lang/IndexOutOfBoundsException", .castable "java/lang/ArithmeticException" "java/lang/ArithmeticException", .castable "java/lang/UnsupportedOperationException" "java/lang/UnsupportedOperationException", .castable "java/util/NoSuchElementException" "java/util/NoSuchElementException"]
def ncW : List (String × String) := [("java/lang/IllegalStateException", "java/lang/IllegalArgumentException"), ("java/lang/IllegalStateException", "java/lang/IndexOutOfBoundsException"), ("java/lang/IllegalStateException", "java/lang/ArithmeticException"), ("java/lang/IllegalStateException", "java/lang/UnsupportedOperationException"), ("java/lang/IllegalStateException", "java/util/NoSuchElementException"), ("java/lang/IllegalArgumentException", "java/lang/IllegalStateException"), ("java/lang/IllegalArgumentException", "java/lang/IndexOutOfBoundsException"), ("java/lang/IllegalArgumentException", "java/lang/ArithmeticException"), ("java/lang/IllegalArgumentException", "java/lang/UnsupportedOperationException"), ("java/lang/IllegalArgumentException", "java/util/NoSuchElementException"), ("java/lang/IndexOutOfBoundsException", "java/lang/IllegalStateException"), ("java/lang/IndexOutOfBoundsException", "java/lang/IllegalArgumentException"), ("java/lang/IndexOutOfBoundsException", "java/lang/ArithmeticException"), ("java/lang/IndexOutOfBoundsException", "java/lang/UnsupportedOperationException"), ("java/lang/IndexOutOfBoundsException", "java/util/NoSuchElementException"), ("java/lang/ArithmeticException", "java/lang/IllegalStateException"), ("java/lang/ArithmeticException", "java/lang/IllegalArgumentException"), ("java/lang/ArithmeticException", "java/lang/IndexOutOfBoundsException"), ("java/lang/ArithmeticException", "java/lang/UnsupportedOperationException"), ("java/lang/ArithmeticException", "java/util/NoSuchElementException"), ("java/lang/UnsupportedOperationException", "java/lang/IllegalStateException"), ("java/lang/UnsupportedOperationException", "java/lang/IllegalArgumentException"), ("java/lang/UnsupportedOperationException", "java/lang/IndexOutOfBoundsException"), ("java/lang/UnsupportedOperationException", "java/lang/ArithmeticException"), ("java/lang/UnsupportedOperationException", "java/util/NoSuchElementException"), ("java/util/NoSuchElementException", "java/lang/IllegalStateException"), ("java/util/NoSuchElementException", "java/lang/IllegalArgumentException"), ("java/util/NoSuchElementException", "java/lang/IndexOutOfBoundsException"), ("java/util/NoSuchElementException", "java/lang/ArithmeticException"), ("java/util/NoSuchElementException", "java/lang/UnsupportedOperationException")]
theorem excW_warm {s U : State} (hW : s.WarmedH U.vm) (h : ∀ w ∈ excW, va_Nw w s) : ∀ w ∈ excW, va_Nw w U := by
  intro w hw
  have h1 := h w hw
  simp only [excW, List.mem_cons, List.not_mem_nil, or_false] at hw
  rcases hw with rfl | rfl | rfl | rfl | rfl | rfl | rfl | rfl | rfl <;> first | exact va_Nw.warmD hW h1 | exact va_Nw.warmC hW h1
theorem excW_same {u U : State} (hv : U.vm = u.vm) (h : ∀ w ∈ excW, va_Nw w u) : ∀ w ∈ excW, va_Nw w U := by
  intro w hw
  have h1 := h w hw
  simp only [excW, List.mem_cons, List.not_mem_nil, or_false] at hw
  rcases hw with rfl | rfl | rfl | rfl | rfl | rfl | rfl | rfl | rfl <;> exact va_Nw.same rfl hv.symm h1
/-- rows of numbers that the class keeps for good -/
def kSights : Nat → Int32 := fun j => match j with | 0 => 3 | 1 => 2 | _ => 4
def kSteps : Nat → Int32 := fun j => match j with | 0 => 2 | 1 => 1 | _ => 0
def kPowers : Nat → Int32 := fun j => match j with | 0 => 1 | 1 => 3 | _ => 2
def kCols : Nat → Int32 := fun j => match j with | 0 => 0 | 1 => 1 | 2 => 1 | 3 => 1 | 4 => 0 | 5 => -1 | 6 => -1 | _ => -1
def kRows : Nat → Int32 := fun j => match j with | 0 => -1 | 1 => -1 | 2 => 0 | 3 => 1 | 4 => 1 | 5 => 1 | 6 => 0 | _ => -1
/-- the texts that are read: GROUNDS, KINDS, the law's kinds -/
def kLen : List Nat := [8, 3, 5]
def kByt : List (List Int32) := [[112, 112, 112, 112, 119, 119, 104, 120], [115, 97, 116], [115, 115, 97, 97, 116]]
def zT (nm : String) (N : Nat) (f : Nat → Int32) (t : Nat) (F : Nat → Prop) (U : State) (H : Heap) : Prop := va_Z "SeedBattle" nm "[I" (.ref t) F U H ∧ va_T .int t N (fun j => .int (f j)) F U H
def zTb (nm : String) (f : Nat → Int32) (t : Nat) (F : Nat → Prop) (U : State) (H : Heap) : Prop := va_Z "java/lang/Integer" nm "[B" (.ref t) F U H ∧ va_T .byte t 100 (fun j => .int (f j)) F U H
def zTl (nm : String) (N : Nat) (f : Nat → Int64) (t : Nat) (F : Nat → Prop) (U : State) (H : Heap) : Prop := va_Z "jdk/internal/math/MathUtils" nm "[J" (.ref t) F U H ∧ va_T .long t N (fun j => .long (f j)) F U H
def kOnes : Nat → Int32 := fun j => Int32.ofNat (48 + j % 10)
def kTens : Nat → Int32 := fun j => Int32.ofNat (48 + j / 10)
def kPow : Nat → Int64 := fun j => Int64.ofNat (10 ^ j)
def kG : Nat → Int64 := fun j => kGl.getD j 0
/-- beside: the law's text, the digits of Integer, the powers of MathUtils -/
def zN (az : Nat → Nat) (F : Nat → Prop) (U : State) (H : Heap) : Prop := vk_R "SeedBattleLaw" 215 "ssaat" (az 7) U ∧ (zTb "DigitOnes" kOnes (az 11) F U H ∧ zTb "DigitTens" kTens (az 12) F U H) ∧ zTl "pow10" 18 kPow (az 13) F U H ∧ zTl "g" 1234 kG (az 14) F U H
theorem zN.warm {az : Nat → Nat} {F : Nat → Prop} {s U : State} {H : Heap} (hW : s.WarmedH U.vm) (h : zN az F s H) : zN az F U H := ⟨vk_R.warm hW h.1, ⟨⟨va_Z.moved hW.alike h.2.1.1.1, va_T.moved hW.alike h.2.1.1.2⟩, ⟨va_Z.moved hW.alike h.2.1.2.1, va_T.moved hW.alike h.2.1.2.2⟩⟩, ⟨va_Z.moved hW.alike h.2.2.1.1, va_T.moved hW.alike h.2.2.1.2⟩, ⟨va_Z.moved hW.alike h.2.2.2.1, va_T.moved hW.alike h.2.2.2.2⟩⟩
theorem zN.same {az : Nat → Nat} {F : Nat → Prop} {u U : State} {H : Heap} (hv : U.vm = u.vm) (h : zN az F u H) : zN az F U H := by
  have hA : u.vm.Alike U.vm := by rw [hv]; exact Vm.Alike.refl _
  exact ⟨vk_R.same hv h.1, ⟨⟨va_Z.moved hA h.2.1.1.1, va_T.moved hA h.2.1.1.2⟩, ⟨va_Z.moved hA h.2.1.2.1, va_T.moved hA h.2.1.2.2⟩⟩, ⟨va_Z.moved hA h.2.2.1.1, va_T.moved hA h.2.2.1.2⟩, ⟨va_Z.moved hA h.2.2.2.1, va_T.moved hA h.2.2.2.2⟩⟩
theorem zN.kept {az : Nat → Nat} {F : Nat → Prop} {U : State} {H H1 : Heap} (h : zN az F U H) (hq : ∀ a : Nat, a < H.size → ¬ F a → H1[a]? = H[a]?) : zN az F U H1 := ⟨h.1, ⟨⟨va_Z.kept h.2.1.1.1 hq, va_T.kept h.2.1.1.2 hq⟩, ⟨va_Z.kept h.2.1.2.1 hq, va_T.kept h.2.1.2.2 hq⟩⟩, ⟨va_Z.kept h.2.2.1.1 hq, va_T.kept h.2.2.1.2 hq⟩, ⟨va_Z.kept h.2.2.2.1 hq, va_T.kept h.2.2.2.2 hq⟩⟩
theorem zN.narrow {az : Nat → Nat} {F B : Nat → Prop} {U : State} {H : Heap} (h : zN az F U H) (hq : ∀ q, B q → F q) : zN az B U H := ⟨h.1, ⟨⟨va_Z.narrow h.2.1.1.1 hq, va_T.narrow h.2.1.1.2 hq⟩, ⟨va_Z.narrow h.2.1.2.1 hq, va_T.narrow h.2.1.2.2 hq⟩⟩, ⟨va_Z.narrow h.2.2.1.1 hq, va_T.narrow h.2.2.1.2 hq⟩, ⟨va_Z.narrow h.2.2.2.1 hq, va_T.narrow h.2.2.2.2 hq⟩⟩
def zF (az : Nat → Nat) (F : Nat → Prop) (U : State) (H : Heap) : Prop :=
  (vx_Zq Bundle.tN "UNASSIGNED_STACK" Bundle.steD F U H ∧ vx_Zq Bundle.tN "SUPPRESSED_SENTINEL" Bundle.listD F U H) ∧
  (∀ w ∈ nestW, va_Nw w U) ∧ (∀ q ∈ strW, ∃ sa, vk_R "SeedBattle" q.1 q.2 sa U) ∧
  (zT "KIND_SIGHTS" 3 kSights (az 0) F U H ∧ zT "KIND_STEPS" 3 kSteps (az 1) F U H ∧ zT "KIND_POWERS" 3 kPowers (az 2) F U H ∧ zT "COLUMN_MOVES" 8 kCols (az 3) F U H ∧ zT "ROW_MOVES" 8 kRows (az 4) F U H) ∧
  (vk_S 3 kLen kByt (fun i => az (5 + i)) (fun i => az (8 + i)) F U H ∧ vk_R "SeedBattle$Land" 16 "ppppwwhx" (az 5) U ∧ vk_R "SeedBattle" 87 "sat" (az 6) U) ∧
  (va_Z "java/lang/String" "COMPACT_STRINGS" "Z" (.int 1) F U H ∧ va_Zq "jdk/internal/util/Preconditions" "SIOOBE_FORMATTER" "Ljava/util/function/BiFunction;" F U H ∧ zN az F U H) ∧ ((∀ w ∈ excW, va_Nw w U) ∧ ∀ q ∈ ncW, va_Nc q.1 q.2 U)
theorem zT.warm {nm : String} {N : Nat} {f : Nat → Int32} {t : Nat} {F : Nat → Prop} {s U : State} {H : Heap} (hW : s.vm.Alike U.vm) (h : zT nm N f t F s H) : zT nm N f t F U H := ⟨va_Z.moved hW h.1, va_T.moved hW h.2⟩
theorem zT.kept {nm : String} {N : Nat} {f : Nat → Int32} {t : Nat} {F : Nat → Prop} {U : State} {H H1 : Heap} (h : zT nm N f t F U H) (hq : ∀ a : Nat, a < H.size → ¬ F a → H1[a]? = H[a]?) : zT nm N f t F U H1 := ⟨va_Z.kept h.1 hq, va_T.kept h.2 hq⟩
theorem zT.narrow {nm : String} {N : Nat} {f : Nat → Int32} {t : Nat} {F B : Nat → Prop} {U : State} {H : Heap} (h : zT nm N f t F U H) (hq : ∀ q, B q → F q) : zT nm N f t B U H := ⟨va_Z.narrow h.1 hq, va_T.narrow h.2 hq⟩
theorem zF.warm {az : Nat → Nat} {F : Nat → Prop} {s U : State} {H : Heap} (hW : s.WarmedH U.vm) (h : zF az F s H) : zF az F U H := by
  obtain ⟨⟨a1, a2⟩, b, c, ⟨d1, d2, d3, d4, d5⟩, ⟨e1, e2, e3⟩, f1⟩ := h
  have hA := hW.alike
  exact ⟨⟨vx_Zq.moved hA a1, vx_Zq.moved hA a2⟩, nestW_warm hW b, fun q hq => (c q hq).imp fun sa h => vk_R.warm hW h, ⟨d1.warm hA, d2.warm hA, d3.warm hA, d4.warm hA, d5.warm hA⟩, ⟨vk_S.moved hA e1, vk_R.warm hW e2, vk_R.warm hW e3⟩, ⟨va_Z.moved hA f1.1.1, va_Zq.moved hA f1.1.2.1, zN.warm hW f1.1.2.2⟩, excW_warm hW f1.2.1, fun q hq => va_Nc.moved hA (f1.2.2 q hq)⟩
theorem zF.same {az : Nat → Nat} {F : Nat → Prop} {u U : State} {H : Heap} (hv : U.vm = u.vm) (h : zF az F u H) : zF az F U H := by
  obtain ⟨⟨a1, a2⟩, b, c, ⟨d1, d2, d3, d4, d5⟩, ⟨e1, e2, e3⟩, f1⟩ := h
  have hA : u.vm.Alike U.vm := by rw [hv]; exact Vm.Alike.refl _
  exact ⟨⟨vx_Zq.moved hA a1, vx_Zq.moved hA a2⟩, nestW_same hv b, fun q hq => (c q hq).imp fun sa h => vk_R.same hv h, ⟨d1.warm hA, d2.warm hA, d3.warm hA, d4.warm hA, d5.warm hA⟩, ⟨vk_S.moved hA e1, vk_R.same hv e2, vk_R.same hv e3⟩, ⟨va_Z.moved hA f1.1.1, va_Zq.moved hA f1.1.2.1, zN.same hv f1.1.2.2⟩, fun w hw => excW_same hv f1.2.1 w hw, fun q hq => va_Nc.moved hA (f1.2.2 q hq)⟩
theorem zF.kept {az : Nat → Nat} {F : Nat → Prop} {U : State} {H H1 : Heap} (h : zF az F U H) (hq : ∀ a : Nat, a < H.size → ¬ F a → H1[a]? = H[a]?) : zF az F U H1 := by
  obtain ⟨⟨a1, a2⟩, b, c, ⟨d1, d2, d3, d4, d5⟩, ⟨e1, e2, e3⟩, f1⟩ := h
  exact ⟨⟨vx_Zq.kept a1 hq, vx_Zq.kept a2 hq⟩, b, c, ⟨d1.kept hq, d2.kept hq, d3.kept hq, d4.kept hq, d5.kept hq⟩, ⟨vk_S.kept e1 hq, e2, e3⟩, ⟨va_Z.kept f1.1.1 hq, va_Zq.kept f1.1.2.1 hq, zN.kept f1.1.2.2 hq⟩, f1.2⟩
theorem zF.narrow {az : Nat → Nat} {F B : Nat → Prop} {U : State} {H : Heap} (h : zF az F U H) (hq : ∀ q, B q → F q) : zF az B U H := by
  obtain ⟨⟨a1, a2⟩, b, c, ⟨d1, d2, d3, d4, d5⟩, ⟨e1, e2, e3⟩, f1⟩ := h
  exact ⟨⟨vx_Zq.narrow a1 hq, vx_Zq.narrow a2 hq⟩, b, c, ⟨d1.narrow hq, d2.narrow hq, d3.narrow hq, d4.narrow hq, d5.narrow hq⟩, ⟨vk_S.narrow e1 hq, e2, e3⟩, ⟨va_Z.narrow f1.1.1 hq, va_Zq.narrow f1.1.2.1 hq, zN.narrow f1.1.2.2 hq⟩, f1.2⟩
/-- a method's world: the cells, apart and in the region F; the frame since the start -/
def uE (D : va_G) (n : Nat) (A : Nat → Option (Nat × Nat)) (O : (Nat → Int32) → Nat → va_E) (cs : Nat → ClassId) (a : Nat → Nat) (F : Nat → Prop) (s : State) (g : St) (H : Heap) (locs : List Loc) : Prop :=
  va_P D vwCl (uW n A O cs a g) H ∧ va_D F (uW n A O cs a g) ∧ va_S F s.heap H locs
/-- what stays while a method runs -/
def uC (p : Program) (m : MethodId) (c : Code) (cc : ByteArray) (nL : Nat) (s : State) (args : Array Value) (Ts : List Cond) (own : String) (D : va_G) (cs az : Nat → Nat) (F : Nat → Prop) : Prop :=
  CallFix p m c cc nL s args Ts own ∧ va_K D vwCl (gT cs) s ∧ (∀ q : Nat, s.heap.size ≤ q → F q) ∧ zF az F s s.heap
section GR
variable {p : Program} {l : Launch} {e : Env} {R : Room} {s : State} {m : MethodId} {args : Array Value} {below : List Frame} {meth : Method} {c : Code} {H : Heap} {locs : List Loc} {cells slots : Nat} {Q : State → Prop}
variable {pc : Nat} {ls : Array Slot} {rest : List Value} {cc : ByteArray} {nL : Nat} {Ts : List Cond} {own : String} {D : va_G} {cs a az : Nat → Nat} {F : Nat → Prop} {n : Nat} {A : Nat → Option (Nat × Nat)} {O : (Nat → Int32) → Nat → va_E} {g : St}
theorem G_iald (hC : uC p m c cc nL s args Ts own D cs az F) (hE : uE D n A O cs a F s g H locs) {k N : Nat} (hf : k < n ∧ A k = some (0, N)) {i : Int32} (hin : vp_in i N) (hdg : decode cc pc = .ok (.iaload, 1))
    (kk : W p l e R s m args below meth c H locs cells slots Q (F0 m (pc + 1) ls (.int (g.1 k i.toNatClampNeg) :: rest))) : W p l e R s m args below meth c H locs cells slots Q (F0 m pc ls (.int i :: .ref (a k) :: rest)) :=
  va_iald hC.1.1 hC.1.2.1 hC.2.1 hE.1 k 0 (uW_arr hf) rfl hin hdg kk
theorem G_cald (hC : uC p m c cc nL s args Ts own D cs az F) (hE : uE D n A O cs a F s g H locs) {k N : Nat} (hf : k < n ∧ A k = some (1, N)) {i : Int32} (hin : vp_in i N) (hdg : decode cc pc = .ok (.caload, 1))
    (kk : W p l e R s m args below meth c H locs cells slots Q (F0 m (pc + 1) ls (.int (g.1 k i.toNatClampNeg) :: rest))) : W p l e R s m args below meth c H locs cells slots Q (F0 m pc ls (.int i :: .ref (a k) :: rest)) :=
  va_cald hC.1.1 hC.1.2.1 hC.2.1 hE.1 k 1 (uW_arr hf) rfl hin hdg kk
theorem G_aald (hC : uC p m c cc nL s args Ts own D cs az F) (hE : uE D n A O cs a F s g H locs) {k t N : Nat} {C : String} {f : Nat → Nat} (hf : (k < n ∧ A k = none) ∧ ∀ sc, O sc k = .inl (cs t, N, .inr (.inr (.inr (.inr (fun i => some (f i))))))) (ht : (gT cs)[t]? = some (cs t, .object C)) {i : Int32} (hin : vp_in i N) (hdg : decode cc pc = .ok (.aaload, 1))
    (kk : W p l e R s m args below meth c H locs cells slots Q (F0 m (pc + 1) ls (.ref (f i.toNatClampNeg) :: rest))) : W p l e R s m args below meth c H locs cells slots Q (F0 m pc ls (.int i :: .ref (a k) :: rest)) :=
  va_aldq hC.1.1 hC.1.2.1 hC.2.1 hE.1 k t (uW_obj hf.1 (hf.2 _)) ht hin hdg kk
theorem G_iast (hC : uC p m c cc nL s args Ts own D cs az F) (hE : uE D n A O cs a F s g H locs) {k N : Nat} (hf : k < n ∧ A k = some (0, N)) {i x : Int32} (hin : vp_in i N) (hdg : decode cc pc = .ok (.iastore, 1))
    (kk : ∀ (H : Heap) (locs : List Loc), uE D n A O cs a F s (sA g k (upd (g.1 k) i.toNatClampNeg x)) H locs → W p l e R s m args below meth c H locs cells slots Q (F0 m (pc + 1) ls rest)) : W p l e R s m args below meth c H locs cells slots Q (F0 m pc ls (.int x :: .int i :: .ref (a k) :: rest)) :=
  va_iast hC.1.1 hC.1.2.1 hC.2.1 hE.1 hE.2.1 hE.2.2 k 0 (uW_arr hf) rfl hin hdg (fun H1 l1 h1 h2 h3 => kk H1 l1 ⟨by rw [← uW_setA hf]; exact h1, by rw [← uW_setA hf]; exact h2, h3⟩)
theorem G_cast (hC : uC p m c cc nL s args Ts own D cs az F) (hE : uE D n A O cs a F s g H locs) {k N : Nat} (hf : k < n ∧ A k = some (1, N)) {i x : Int32} (hin : vp_in i N) (hdg : decode cc pc = .ok (.castore, 1))
    (kk : ∀ (H : Heap) (locs : List Loc), uE D n A O cs a F s (sA g k (upd (g.1 k) i.toNatClampNeg (vp_nar .char x))) H locs → W p l e R s m args below meth c H locs cells slots Q (F0 m (pc + 1) ls rest)) : W p l e R s m args below meth c H locs cells slots Q (F0 m pc ls (.int x :: .int i :: .ref (a k) :: rest)) :=
  va_cast hC.1.1 hC.1.2.1 hC.2.1 hE.1 hE.2.1 hE.2.2 k 1 (uW_arr hf) rfl hin hdg (fun H1 l1 h1 h2 h3 => kk H1 l1 ⟨by rw [← uW_setA hf]; exact h1, by rw [← uW_setA hf]; exact h2, h3⟩)
theorem G_get (hC : uC p m c cc nL s args Ts own D cs az F) (hE : uE D n A O cs a F s g H locs) {C : String} {T : u_T} {Nf ci index : Nat} (hin : ∀ w ∈ u_ws C T Nf, w ∈ Ts) {k : Nat} {fs : (Nat → Int32) → List Value} (hf : (k < n ∧ A k = none) ∧ ∀ sc, O sc k = .inr (ci, fs sc)) (hc : vwCl[ci]? = some (C, T, Nf)) (j : Nat) (hj : j < Nf)
    (hlink : (Cond.fieldLink own index (T j).1 (T j).2.1 (T j).2.2.1).before args s = true) {v : Value} (hv : (fs g.2)[j]? = some v) (hdg : decode cc pc = .ok (.getfield index, 3))
    (kk : W p l e R s m args below meth c H locs cells slots Q (F0 m (pc + 3) ls (v :: rest))) : W p l e R s m args below meth c H locs cells slots Q (F0 m pc ls (.ref (a k) :: rest)) :=
  va_get hC.1.1 hC.1.2.1 hC.1.2.2.2.2 hin hC.1.2.2.2.1 hC.2.1 hE.1 k (uW_obj hf.1 (hf.2 _)) hc j hj hlink (fun _ h => h) hv hdg kk
theorem G_getN (hC : uC p m c cc nL s args Ts own D cs az F) (hE : uE D n A O cs a F s g H locs) {C : String} {T : u_T} {Nf ci index : Nat} (hin : ∀ w ∈ u_ws C T Nf, w ∈ Ts) {k : Nat} {fs : (Nat → Int32) → List Value} (hf : (k < n ∧ A k = none) ∧ ∀ sc, O sc k = .inr (ci, fs sc)) (hc : vwCl[ci]? = some (C, T, Nf)) (j : Nat) (hj : j < Nf)
    (hlink : Cond.fieldLinkNest own index (T j).1 (T j).2.1 (T j).2.2.1 "SeedBattle" ∈ nestW) {v : Value} (hv : (fs g.2)[j]? = some v) (hdg : decode cc pc = .ok (.getfield index, 3))
    (kk : W p l e R s m args below meth c H locs cells slots Q (F0 m (pc + 3) ls (v :: rest))) : W p l e R s m args below meth c H locs cells slots Q (F0 m pc ls (.ref (a k) :: rest)) :=
  va_getN hC.1.1 hC.1.2.1 hC.1.2.2.2.2 hin hC.1.2.2.2.1 hC.2.1 hE.1 k (uW_obj hf.1 (hf.2 _)) hc j hj (va_Nw.use rfl (hC.2.2.2.2.1 _ hlink)) (fun _ h => h) hv hdg kk
theorem G_put (hC : uC p m c cc nL s args Ts own D cs az F) (hE : uE D n A O cs a F s g H locs) {C : String} {T : u_T} {Nf ci index : Nat} (hin : ∀ w ∈ u_ws C T Nf, w ∈ Ts) (ty0 : Nat → FieldType) (hty : ∀ k, k < Nf → parseFieldDescriptor (T k).2.2.1 = some (ty0 k)) (hnm : ∀ a, a < Nf → ∀ b, b < Nf → a ≠ b → (T a).2.1 ≠ (T b).2.1)
    {k : Nat} {fs : (Nat → Int32) → List Value} (hf : (k < n ∧ A k = none) ∧ ∀ sc, O sc k = .inr (ci, fs sc)) (hc : vwCl[ci]? = some (C, T, Nf)) (j i : Nat) (hj : j < Nf)
    (hlink : (Cond.fieldLink own index (T j).1 (T j).2.1 (T j).2.2.1).before args s = true) (hfin : (T j).2.2.2 = false) {ty : FieldType} {v : Int32} (hd : parseFieldDescriptor (T j).2.2.1 = some ty) (hn : narrow ty (.int v) = .int v) (hfit : fits ty (.int v) = true)
    (hl : j < (fs g.2).length) (hset : (fs g.2).set j (.int v) = fs (sS g i v).2) (hoff : ∀ q, q < n → q ≠ k → O (sS g i v).2 q = O g.2 q) (hdg : decode cc pc = .ok (.putfield index, 3))
    (kk : ∀ (H : Heap) (locs : List Loc), uE D n A O cs a F s (sS g i v) H locs → W p l e R s m args below meth c H locs cells slots Q (F0 m (pc + 3) ls rest)) : W p l e R s m args below meth c H locs cells slots Q (F0 m pc ls (.int v :: .ref (a k) :: rest)) :=
  have hs : (uW n A O cs a g).set k (a k, .inr (ci, (fs g.2).set j (.int v))) = uW n A O cs a (sS g i v) := uW_setS hf.1 (by rw [hf.2, hset]) hoff
  va_put hC.1.1 hC.1.2.1 hC.1.2.2.2.2 hin ty0 hty hnm hC.1.2.2.2.1 hC.2.1 hE.1 hE.2.1 hE.2.2 k (uW_obj hf.1 (hf.2 _)) hc j hj hlink (fun _ h => h) hfin hd hn hfit hl hdg (fun H1 l1 h1 h2 h3 => kk H1 l1 ⟨by rw [← hs]; exact h1, by rw [← hs]; exact h2, h3⟩)
end GR
/-! contracts over such a world -/
def uP (D : va_G) (cs az : Nat → Nat) (Wl : St → va_W) (sz : Nat) (av : List Value) (g : St) : Array Value → State → Prop :=
  va_Pc av (fun U => U.heap.size = sz ∧ va_P D vwCl (Wl g) U.heap ∧ va_K D vwCl (gT cs) U ∧ va_D (fun _ => True) (Wl g) ∧ zF az (va_A (Wl g) sz) U U.heap)
theorem uP_blind {D : va_G} {cs az : Nat → Nat} {Wl : St → va_W} {sz : Nat} {av : List Value} {g : St} : FrameBlind (uP D cs az Wl sz av g) := by
  intro a U j mk h
  obtain ⟨h0, h1, h2, h3, h4, h5⟩ := h
  exact ⟨h0, h1, h2, va_K.moved (u := U) (U := U.calling j mk a) (Vm.Alike.refl U.vm) h3, h4, zF.same (u := U) (U := U.calling j mk a) rfl h5⟩
theorem uP_at {D : va_G} {cs az : Nat → Nat} {n : Nat} {A : Nat → Option (Nat × Nat)} {O : (Nat → Int32) → Nat → va_E} {a : Nat → Nat} {F : Nat → Prop} {s U : State} {H : Heap} {locs : List Loc} {g : St} {av : List Value}
    (hK : va_K D vwCl (gT cs) s) (hA : ∀ q : Nat, s.heap.size ≤ q → F q) (hZ : zF az F s s.heap) (hE : uE D n A O cs a F s g H locs) (hU : U.heap = H) (hW : s.WarmedH U.vm) : uP D cs az (uW n A O cs a) H.size av g av.toArray U := by
  refine ⟨rfl, by rw [hU], by rw [hU]; exact hE.1, va_K.moved hW.alike hK, hE.2.1.weaken (fun _ _ _ _ => trivial), ?_⟩
  rw [hU]
  refine zF.narrow ((zF.warm hW hZ).kept hE.2.2.2.1) ?_
  intro q h
  rcases h with ⟨k, e, h⟩ | h
  · exact hE.2.1.2 k (q, e) h
  · exact hA q (Nat.le_trans hE.2.2.1 h)
theorem uE_free {D : va_G} {cs : Nat → Nat} {n : Nat} {A : Nat → Option (Nat × Nat)} {O : (Nat → Int32) → Nat → va_E} {a : Nat → Nat} {F : Nat → Prop} {s : State} {H : Heap} {locs : List Loc} {g : St} (hA : ∀ q : Nat, s.heap.size ≤ q → F q) (hE : uE D n A O cs a F s g H locs) : ∀ q, va_A (uW n A O cs a g) H.size q → F q := by
  intro q h
  rcases h with ⟨k, e, h⟩ | h
  · exact hE.2.1.2 k (q, e) h
  · exact hA q (Nat.le_trans hE.2.2.1 h)
def uB (D : va_G) (Wl : St → va_W) (g : St) (t : State) : Prop := va_P D vwCl (Wl g) t.heap
/-- an answer of 32 bits / of 64 / none: from this state g, for these arguments, post holds of the answer and of the state behind -/
def uMi (l : Launch) (y : MethodName) (ws : List Cond) (rm : Room) (D : va_G) (cs az : Nat → Nat) (Wl : St → va_W) (av : List Value) (g : St) (post : Int32 → St → Prop) : Prop :=
  ∀ sz, Met l y ws rm (uP D cs az Wl sz av g) (va_Qi post (uB D Wl) (va_A (Wl g) sz)) 0 0 (va_A (Wl g) sz)
def uMl (l : Launch) (y : MethodName) (ws : List Cond) (rm : Room) (D : va_G) (cs az : Nat → Nat) (Wl : St → va_W) (av : List Value) (g : St) (post : Int64 → St → Prop) : Prop :=
  ∀ sz, Met l y ws rm (uP D cs az Wl sz av g) (va_Ql post (uB D Wl) (va_A (Wl g) sz)) 0 0 (va_A (Wl g) sz)
def uMv (l : Launch) (y : MethodName) (ws : List Cond) (rm : Room) (D : va_G) (cs az : Nat → Nat) (Wl : St → va_W) (av : List Value) (g : St) (post : St → Prop) : Prop :=
  ∀ sz, Met l y ws rm (uP D cs az Wl sz av g) (va_Qv post (uB D Wl) (va_A (Wl g) sz)) 0 0 (va_A (Wl g) sz)
/-- a method that needs no world -/
def uMs (l : Launch) (y : MethodName) (ws : List Cond) (rm : Room) (av : List Value) (post : Int32 → Prop) : Prop :=
  Met l y ws rm (va_Pc av (fun U => ∀ w ∈ nestW, va_Nw w U)) (vp_Si post) 0 0 (fun _ => False)
section GM
variable {l : Launch} {D : va_G} {cs a az : Nat → Nat} {n : Nat} {A : Nat → Option (Nat × Nat)} {O : (Nat → Int32) → Nat → va_E} {g : St} {y : MethodName} {ws ws' : List Cond} {rm : Room} {maxL : Nat} {av : List Value} {cc : ByteArray}
theorem u_pre {p : Program} {ret : Option FieldType} {e : Env} {s s₁ : State} {m : MethodId} {args : Array Value} {below : List Frame} {meth : Method} {c : Code} {sz : Nat}
    (B : BodyLoose p l y (headSpec ws rm) cc maxL ret e s m args below meth c s₁) (hml : c.maxLocals = maxL) (hv : uP D cs az (uW n A O cs a) sz av g args s) :
    args = av.toArray ∧ sz = s.heap.size ∧ uC p m c cc maxL s args ws y.cls D cs az (va_A (uW n A O cs a g) s.heap.size) ∧ uE D n A O cs a (va_A (uW n A O cs a g) s.heap.size) s g s.heap [] ∧ meth.sig.returnType = ret ∧ meth.locks = false := by
  obtain ⟨h0, h1, h2, h3, h4, h5⟩ := hv
  subst h1
  exact ⟨h0, rfl, ⟨⟨B.exec, B.bytes, hml, findClass_of_methodNamed B.named, atoms_spec (ws := ws) B.pre⟩, h3, fun q h => Or.inr h, h5⟩, ⟨h2, h4.self, va_S.rf⟩, B.returns, B.notSynchronized⟩
theorem u_ofI {post : Int32 → St → Prop} {rt : FieldType} (hy : plainName y.cls = true) (hw : ws = Cond.code y cc maxL (some rt) :: ws') (hav : (lg_sl av).length ≤ maxL)
    (body : ∀ p e s m args below meth c F ls, uC p m c cc maxL s args ws y.cls D cs az F → meth.sig.returnType = some rt → meth.locks = false → lv_has ls maxL (lv_args 0 av) → uE D n A O cs a F s g s.heap [] →
      W p l e rm s m args below meth c s.heap [] 0 0 (MQ below (va_Qi post (uB D (uW n A O cs a)) F) args s 0 0 F) (F0 m 0 ls [])) : uMi l y ws rm D cs az (uW n A O cs a) av g post := by
  intro sz
  refine Met.ofW (cc := cc) (maxL := maxL) (ret := some rt) hy hw ?_
  intro p e s m args below meth c s₁ B hml hv
  obtain ⟨h0, h1, hC, hE, hr, hk⟩ := u_pre B hml hv
  subst h1
  rw [h0, lg_entry_eq]
  rw [h0] at hC
  exact body p e s m av.toArray below meth c _ _ hC hr hk (lv_entry av hav) hE
theorem u_ofL {post : Int64 → St → Prop} {rt : FieldType} (hy : plainName y.cls = true) (hw : ws = Cond.code y cc maxL (some rt) :: ws') (hav : (lg_sl av).length ≤ maxL)
    (body : ∀ p e s m args below meth c F ls, uC p m c cc maxL s args ws y.cls D cs az F → meth.sig.returnType = some rt → meth.locks = false → lv_has ls maxL (lv_args 0 av) → uE D n A O cs a F s g s.heap [] →
      W p l e rm s m args below meth c s.heap [] 0 0 (MQ below (va_Ql post (uB D (uW n A O cs a)) F) args s 0 0 F) (F0 m 0 ls [])) : uMl l y ws rm D cs az (uW n A O cs a) av g post := by
  intro sz
  refine Met.ofW (cc := cc) (maxL := maxL) (ret := some rt) hy hw ?_
  intro p e s m args below meth c s₁ B hml hv
  obtain ⟨h0, h1, hC, hE, hr, hk⟩ := u_pre B hml hv
  subst h1
  rw [h0, lg_entry_eq]
  rw [h0] at hC
  exact body p e s m av.toArray below meth c _ _ hC hr hk (lv_entry av hav) hE
theorem u_ofV {post : St → Prop} (hy : plainName y.cls = true) (hw : ws = Cond.code y cc maxL none :: ws') (hav : (lg_sl av).length ≤ maxL)
    (body : ∀ p e s m args below meth c F ls, uC p m c cc maxL s args ws y.cls D cs az F → meth.sig.returnType = none → meth.locks = false → lv_has ls maxL (lv_args 0 av) → uE D n A O cs a F s g s.heap [] →
      W p l e rm s m args below meth c s.heap [] 0 0 (MQ below (va_Qv post (uB D (uW n A O cs a)) F) args s 0 0 F) (F0 m 0 ls [])) : uMv l y ws rm D cs az (uW n A O cs a) av g post := by
  intro sz
  refine Met.ofW (cc := cc) (maxL := maxL) (ret := none) hy hw ?_
  intro p e s m args below meth c s₁ B hml hv
  obtain ⟨h0, h1, hC, hE, hr, hk⟩ := u_pre B hml hv
  subst h1
  rw [h0, lg_entry_eq]
  rw [h0] at hC
  exact body p e s m av.toArray below meth c _ _ hC hr hk (lv_entry av hav) hE
theorem u_ofS {post : Int32 → Prop} {rt : FieldType} (hy : plainName y.cls = true) (hw : ws = Cond.code y cc maxL (some rt) :: ws') (hav : (lg_sl av).length ≤ maxL)
    (body : ∀ p e s m args below meth c ls, CallFix p m c cc maxL s args ws y.cls → (∀ w ∈ nestW, va_Nw w s) → meth.sig.returnType = some rt → meth.locks = false → lv_has ls maxL (lv_args 0 av) →
      W p l e rm s m args below meth c s.heap [] 0 0 (MQ below (vp_Si post) args s 0 0 (fun _ => False)) (F0 m 0 ls [])) : uMs l y ws rm av post := by
  refine Met.ofW (cc := cc) (maxL := maxL) (ret := some rt) hy hw ?_
  intro p e s m args below meth c s₁ B hml hv
  obtain ⟨h0, h1⟩ := hv
  rw [h0, lg_entry_eq]
  have hts := atoms_spec (ws := ws) B.pre
  rw [h0] at hts
  exact body p e s m av.toArray below meth c _ ⟨B.exec, B.bytes, hml, findClass_of_methodNamed B.named, hts⟩ h1 B.returns B.notSynchronized (lv_entry av hav)
end GM
section GC
variable {p : Program} {l : Launch} {e : Env} {R : Room} {s : State} {m : MethodId} {args : Array Value} {below : List Frame} {meth : Method} {c : Code} {H : Heap} {locs : List Loc} {cells slots : Nat} {Q : State → Prop}
variable {pc : Nat} {ls : Array Slot} {rest st0 : List Value} {cc : ByteArray} {nL : Nat} {Ts : List Cond} {own : String} {D : va_G} {cs a az : Nat → Nat} {F : Nat → Prop} {n : Nat} {A : Nat → Option (Nat × Nat)} {O : (Nat → Int32) → Nat → va_E} {g : St}
theorem G_iret {post : Int32 → St → Prop} {v : Int32} (hC : uC p m c cc nL s args Ts own D cs az F) (hr : meth.sig.returnType = some .int) (hk : meth.locks = false) (hE : uE D n A O cs a F s g H locs) (hp : post v g) (hdg : decode cc pc = .ok (.ireturn, 1)) :
    W p l e R s m args below meth c H locs 0 0 (MQ below (va_Qi post (uB D (uW n A O cs a)) F) args s 0 0 F) (F0 m pc ls [.int v]) :=
  W.iret hC.1.1 hC.1.2.1 hr (fun t ht _ => ⟨⟨v, g, rfl, hp, by unfold uB; rw [ht]; exact hE.1⟩, hE.2.2.F ht⟩) hE.2.2.2.2 hdg hk
theorem G_zret {post : Int32 → St → Prop} {v : Int32} {ty : FieldType} (hC : uC p m c cc nL s args Ts own D cs az F) (hr : meth.sig.returnType = some ty) (hk : meth.locks = false) (hE : uE D n A O cs a F s g H locs) (hn : narrow ty (.int v) = .int v) (hp : post v g) (hdg : decode cc pc = .ok (.ireturn, 1)) :
    W p l e R s m args below meth c H locs 0 0 (MQ below (va_Qi post (uB D (uW n A O cs a)) F) args s 0 0 F) (F0 m pc ls [.int v]) :=
  W.zret hC.1.1 hC.1.2.1 hr hn (fun t ht _ => ⟨⟨v, g, rfl, hp, by unfold uB; rw [ht]; exact hE.1⟩, hE.2.2.F ht⟩) hE.2.2.2.2 hdg hk
theorem G_lret {post : Int64 → St → Prop} {v : Int64} (hC : uC p m c cc nL s args Ts own D cs az F) (hr : meth.sig.returnType = some .long) (hk : meth.locks = false) (hE : uE D n A O cs a F s g H locs) (hp : post v g) (hdg : decode cc pc = .ok (.lreturn, 1)) :
    W p l e R s m args below meth c H locs 0 0 (MQ below (va_Ql post (uB D (uW n A O cs a)) F) args s 0 0 F) (F0 m pc ls [.long v]) :=
  W.lret hC.1.1 hC.1.2.1 hr (fun t ht _ => ⟨⟨v, g, rfl, hp, by unfold uB; rw [ht]; exact hE.1⟩, hE.2.2.F ht⟩) hE.2.2.2.2 hdg hk
theorem G_vret {post : St → Prop} (hC : uC p m c cc nL s args Ts own D cs az F) (hr : meth.sig.returnType = none) (hk : meth.locks = false) (hE : uE D n A O cs a F s g H locs) (hp : post g) (hdg : decode cc pc = .ok (.return_, 1)) :
    W p l e R s m args below meth c H locs 0 0 (MQ below (va_Qv post (uB D (uW n A O cs a)) F) args s 0 0 F) (F0 m pc ls []) :=
  W.vret hC.1.1 hC.1.2.1 hr (fun t ht _ => ⟨⟨g, rfl, hp, by unfold uB; rw [ht]; exact hE.1⟩, hE.2.2.F ht⟩) hE.2.2.2.2 hdg hk
theorem S_iret {post : Int32 → Prop} {v : Int32} {ty : FieldType} (hC : CallFix p m c cc nL s args Ts own) (hr : meth.sig.returnType = some ty) (hk : meth.locks = false) (hn : narrow ty (.int v) = .int v) (hp : post v) (hdg : decode cc pc = .ok (.ireturn, 1)) :
    W p l e R s m args below meth c s.heap [] 0 0 (MQ below (vp_Si post) args s 0 0 (fun _ => False)) (F0 m pc ls [.int v]) :=
  W.zret hC.1 hC.2.1 hr hn (fun t ht _ => ⟨v, rfl, hp, ht⟩) (fun _ h => by cases h) hdg hk
variable {y : MethodName} {bytes : ByteArray} {maxL k index q0 ci : Nat} {ws : List Cond} {rm : Room} {C host : String} {T : u_T} {Nf : Nat} {fs : List Value} {As : List Value} {rt : FieldType} {lv : List (Nat × Value)}
theorem uE_call {post : St → Prop} {g' : St} {t : State} {H1 : Heap} {l1 : List Loc} (hE : uE D n A O cs a F s g H locs) (ht : t.heap = H1) (hB : uB D (uW n A O cs a) g' t) (hS : va_S F s.heap H1 l1) : uE D n A O cs a F s g' H1 l1 := ⟨by rw [← ht]; exact hB, uW_dis hE.2.1, hS⟩
theorem G_callVi {post : Int32 → St → Prop} (hC : uC p m c cc nL s args Ts own D cs az F) (hM : uMi l y ws rm D cs az (uW n A O cs a) (.ref (a q0) :: As) g post) (cw : CallW R s args own C index y bytes maxL (some rt) ws rm 0 0 k) {fs : (Nat → Int32) → List Value} (hf : (q0 < n ∧ A q0 = none) ∧ ∀ sc, O sc q0 = .inr (ci, fs sc)) (hc : vwCl[ci]? = some (C, T, Nf))
    (hn : As.length = k) (hl : lv_has ls nL lv) (hst : st0 = As.reverse ++ .ref (a q0) :: rest) (hW : (rest.map fun v => v.category).sum ≤ 8) (hdg : decode cc pc = .ok (.invokevirtual index, 3)) (hE : uE D n A O cs a F s g H locs)
    (kk : ∀ (r : Int32) (g' : St) (H : Heap) (locs : List Loc), post r g' → uE D n A O cs a F s g' H locs → W p l e R s m args below meth c H locs 0 0 Q (F0 m (pc + 3) ls (.int r :: rest))) : W p l e R s m args below meth c H locs 0 0 Q (F0 m pc ls st0) := by
  subst hst
  exact va_calli (va_runV (As := As) (rest := rest) hC.1 (hM H.size) cw ⟨uP_blind, va_recv hC.2.1 hE.1 hc (uW_obj hf.1 (hf.2 _)), fun U hU hW => uP_at hC.2.1 hC.2.2.1 hC.2.2.2 hE hU hW⟩ rfl hn hl.1 rfl (lv_room hW) hdg ⟨Nat.zero_le _, Nat.zero_le _⟩) hE.2.2 (fun q _ h => uE_free hC.2.2.1 hE q h) (uE_free hC.2.2.1 hE)
    (fun r u t H1 l1 ht _ hp hB _ _ hS => kk r u H1 l1 hp (uE_call (post := fun _ => True) hE ht hB hS))
theorem G_callVv {post : St → Prop} (hC : uC p m c cc nL s args Ts own D cs az F) (hM : uMv l y ws rm D cs az (uW n A O cs a) (.ref (a q0) :: As) g post) (cw : CallW R s args own C index y bytes maxL none ws rm 0 0 k) {fs : (Nat → Int32) → List Value} (hf : (q0 < n ∧ A q0 = none) ∧ ∀ sc, O sc q0 = .inr (ci, fs sc)) (hc : vwCl[ci]? = some (C, T, Nf))
    (hn : As.length = k) (hl : lv_has ls nL lv) (hst : st0 = As.reverse ++ .ref (a q0) :: rest) (hW : (rest.map fun v => v.category).sum ≤ 8) (hdg : decode cc pc = .ok (.invokevirtual index, 3)) (hE : uE D n A O cs a F s g H locs)
    (kk : ∀ (g' : St) (H : Heap) (locs : List Loc), post g' → uE D n A O cs a F s g' H locs → W p l e R s m args below meth c H locs 0 0 Q (F0 m (pc + 3) ls rest)) : W p l e R s m args below meth c H locs 0 0 Q (F0 m pc ls st0) := by
  subst hst
  exact va_callv (va_runV (As := As) (rest := rest) hC.1 (hM H.size) cw ⟨uP_blind, va_recv hC.2.1 hE.1 hc (uW_obj hf.1 (hf.2 _)), fun U hU hW => uP_at hC.2.1 hC.2.2.1 hC.2.2.2 hE hU hW⟩ rfl hn hl.1 rfl (lv_room hW) hdg ⟨Nat.zero_le _, Nat.zero_le _⟩) hE.2.2 (fun q _ h => uE_free hC.2.2.1 hE q h) (uE_free hC.2.2.1 hE)
    (fun u t H1 l1 ht _ hp hB _ _ hS => kk u H1 l1 hp (uE_call (post := fun _ => True) hE ht hB hS))
theorem G_callVl {post : Int64 → St → Prop} (hC : uC p m c cc nL s args Ts own D cs az F) (hM : uMl l y ws rm D cs az (uW n A O cs a) (.ref (a q0) :: As) g post) (cw : CallW R s args own C index y bytes maxL (some rt) ws rm 0 0 k) {fs : (Nat → Int32) → List Value} (hf : (q0 < n ∧ A q0 = none) ∧ ∀ sc, O sc q0 = .inr (ci, fs sc)) (hc : vwCl[ci]? = some (C, T, Nf))
    (hn : As.length = k) (hl : lv_has ls nL lv) (hst : st0 = As.reverse ++ .ref (a q0) :: rest) (hW : (rest.map fun v => v.category).sum ≤ 8) (hdg : decode cc pc = .ok (.invokevirtual index, 3)) (hE : uE D n A O cs a F s g H locs)
    (kk : ∀ (r : Int64) (g' : St) (H : Heap) (locs : List Loc), post r g' → uE D n A O cs a F s g' H locs → W p l e R s m args below meth c H locs 0 0 Q (F0 m (pc + 3) ls (.long r :: rest))) : W p l e R s m args below meth c H locs 0 0 Q (F0 m pc ls st0) := by
  subst hst
  exact va_calll (va_runV (As := As) (rest := rest) hC.1 (hM H.size) cw ⟨uP_blind, va_recv hC.2.1 hE.1 hc (uW_obj hf.1 (hf.2 _)), fun U hU hW => uP_at hC.2.1 hC.2.2.1 hC.2.2.2 hE hU hW⟩ rfl hn hl.1 rfl (lv_room hW) hdg ⟨Nat.zero_le _, Nat.zero_le _⟩) hE.2.2 (fun q _ h => uE_free hC.2.2.1 hE q h) (uE_free hC.2.2.1 hE)
    (fun r u t H1 l1 ht _ hp hB _ _ hS => kk r u H1 l1 hp (uE_call (post := fun _ => True) hE ht hB hS))
end GC
section GS
variable {p : Program} {l : Launch} {e : Env} {R : Room} {s : State} {m : MethodId} {args : Array Value} {below : List Frame} {meth : Method} {c : Code} {H : Heap} {locs : List Loc} {cells slots : Nat} {Q : State → Prop}
variable {pc : Nat} {ls : Array Slot} {rest st0 : List Value} {cc : ByteArray} {nL : Nat} {Ts : List Cond} {own : String} {a : Array Value}
theorem G_runSs {post : Int32 → Prop} (hr : va_Run p l e R s m args below meth c H locs cells slots 0 0 (F0 m pc ls st0) rest (vp_Si post a) (fun _ => False))
    (kk : ∀ r : Int32, post r → W p l e R s m args below meth c H locs cells slots Q (F0 m (pc + 3) ls (.int r :: rest))) : W p l e R s m args below meth c H locs cells slots Q (F0 m pc ls st0) := by
  intro T hT X
  obtain ⟨v, st₀, t, T', L, h0, X', hL, e1, e2, ⟨r, hv, hp, hh⟩, st⟩ := hr T hT X
  cases hv
  have hL0 : L = [] := by
    cases L with
    | nil => rfl
    | cons q _ => exact (hL q List.mem_cons_self).elim
  subst hL0
  rw [List.append_nil] at X'
  obtain ⟨t2, a1, b1⟩ := kk r hp T' (by rw [e1, hh, h0]) X'
  exact ⟨t2, st t2 a1, b1⟩
variable {y : MethodName} {bytes : ByteArray} {maxL k index : Nat} {ws : List Cond} {rm : Room} {As : List Value} {rt : FieldType} {lv : List (Nat × Value)}
/-- a static method of the class itself, that needs no world -/
theorem G_callSs {post : Int32 → Prop} (hC : CallFix p m c cc nL s args Ts own) (hN : ∀ w ∈ nestW, va_Nw w s) (hM : uMs l y ws rm As post) (cw : CallB R s args own index y bytes maxL (some rt) ws rm 0 0 k ∧ (Cond.static y).before args s = true)
    (hn : As.length = k) (hl : lv_has ls nL lv) (hst : st0 = As.reverse ++ rest) (hW : (rest.map fun v => v.category).sum ≤ 8) (hdg : decode cc pc = .ok (.invokestatic index, 3)) (hc : cells ≤ R.cells) (hs : slots ≤ R.slots)
    (kk : ∀ r : Int32, post r → W p l e R s m args below meth c H locs cells slots Q (F0 m (pc + 3) ls (.int r :: rest))) : W p l e R s m args below meth c H locs cells slots Q (F0 m pc ls st0) := by
  subst hst
  exact G_runSs (va_runS (As := As) (rest := rest) hC hM cw ⟨fun b U j mk h => ⟨h.1, nestW_same (u := U) (U := U.calling j mk b) rfl h.2⟩, fun U _ hW => ⟨rfl, nestW_warm hW hN⟩⟩ rfl hn hl.1 rfl (lv_room hW) hdg ⟨hc, hs⟩) kk
/-- one of another class of the nest -/
theorem G_callNs {post : Int32 → Prop} (hC : CallFix p m c cc nL s args Ts own) (hN : ∀ w ∈ nestW, va_Nw w s) (hM : uMs l y ws rm As post) (cw : va_CN R s args own index y "SeedBattle" bytes maxL (some rt) ws rm 0 0 k ∧ (Cond.static y).before args s = true ∧ True)
    (hn : As.length = k) (hl : lv_has ls nL lv) (hst : st0 = As.reverse ++ rest) (hW : (rest.map fun v => v.category).sum ≤ 8) (hdg : decode cc pc = .ok (.invokestatic index, 3)) (hc : cells ≤ R.cells) (hs : slots ≤ R.slots)
    (kk : ∀ r : Int32, post r → W p l e R s m args below meth c H locs cells slots Q (F0 m (pc + 3) ls (.int r :: rest))) : W p l e R s m args below meth c H locs cells slots Q (F0 m pc ls st0) := by
  subst hst
  exact G_runSs (va_runSN (As := As) (rest := rest) hC hM cw ⟨fun b U j mk h => ⟨h.1, nestW_same (u := U) (U := U.calling j mk b) rfl h.2⟩, fun U _ hW => ⟨rfl, nestW_warm hW hN⟩⟩ rfl hn hl.1 rfl (lv_room hW) hdg ⟨hc, hs⟩) kk
end GS
/-- loops: some number of rounds brings it to the end -/
def itP {σ : Type} (F : (σ → Prop) → σ → Prop) : Nat → σ → Prop
  | 0, _ => False
  | n + 1, x => F (itP F n) x
def lpP {σ : Type} (F : (σ → Prop) → σ → Prop) (x : σ) : Prop := ∃ n, itP F n x
theorem lp_by {σ : Type} {F : (σ → Prop) → σ → Prop} (I : σ → Prop) (μ : σ → Nat) (h : ∀ (K : σ → Prop) (x : σ), I x → (∀ y, I y → μ y < μ x → K y) → F K x) {x : σ} (hx : I x) : lpP F x := by
  have key : ∀ n x, μ x < n → I x → itP F n x := by
    intro n
    induction n with
    | zero => intro x hm; exact absurd hm (Nat.not_lt_zero _)
    | succ n ih => intro x hm hx; exact h _ x hx (fun y hy hlt => ih y (by omega) hy)
  exact ⟨μ x + 1, key _ x (Nat.lt_succ_self _) hx⟩
/-! methods of the JDK over the texts that are constants -/
theorem zF.st {az : Nat → Nat} {F : Nat → Prop} {U : State} {H : Heap} (h : zF az F U H) {i : Nat} (hi : i < 3) : va_O "java/lang/String" (az (5 + i)) F U H ∧ va_OF "java/lang/String" "coder" "B" (.int 0) (az (5 + i)) F U H ∧ va_OF "java/lang/String" "value" "[B" (.ref (az (8 + i))) (az (5 + i)) F U H ∧ va_T .byte (az (8 + i)) (kLen.getD i 0) (fun j => .int ((kByt.getD i []).getD j 0)) F U H := h.2.2.2.2.1.1.1 i hi
theorem zF.vs {az : Nat → Nat} {F : Nat → Prop} {U : State} {H : Heap} (h : zF az F U H) : vk_S 3 kLen kByt (fun i => az (5 + i)) (fun i => az (8 + i)) F U H := h.2.2.2.2.1.1
theorem zF.cs {az : Nat → Nat} {F : Nat → Prop} {U : State} {H : Heap} (h : zF az F U H) : va_Z "java/lang/String" "COMPACT_STRINGS" "Z" (.int 1) F U H := h.2.2.2.2.2.1.1
theorem zF.sio {az : Nat → Nat} {F : Nat → Prop} {U : State} {H : Heap} (h : zF az F U H) : va_Zq "jdk/internal/util/Preconditions" "SIOOBE_FORMATTER" "Ljava/util/function/BiFunction;" F U H := h.2.2.2.2.2.1.2.1
theorem zF.zn {az : Nat → Nat} {F : Nat → Prop} {U : State} {H : Heap} (h : zF az F U H) : zN az F U H := h.2.2.2.2.2.1.2.2
def uPk (az : Nat → Nat) (sz : Nat) (av : List Value) : Array Value → State → Prop := va_Pc av (fun U => U.heap.size = sz ∧ zF az (fun q => sz ≤ q) U U.heap)
def uMk (l : Launch) (y : MethodName) (ws : List Cond) (rm : Room) (az : Nat → Nat) (av : List Value) (post : Int32 → Prop) : Prop :=
  ∀ sz, Met l y ws rm (uPk az sz av) (vp_Si post) 0 0 (fun _ => False)
def uMkv (l : Launch) (y : MethodName) (ws : List Cond) (rm : Room) (az : Nat → Nat) (av : List Value) (post : Prop) : Prop :=
  ∀ sz, Met l y ws rm (uPk az sz av) (va_Sv (fun _ => post)) 0 0 (fun _ => False)
theorem uPk_blind {az : Nat → Nat} {sz : Nat} {av : List Value} : FrameBlind (uPk az sz av) := by
  intro a U j mk h
  exact ⟨h.1, h.2.1, zF.same (u := U) (U := U.calling j mk a) rfl h.2.2⟩
theorem uPk_at {az : Nat → Nat} {F : Nat → Prop} {s U : State} {H : Heap} {locs : List Loc} {av : List Value} (hA : ∀ q : Nat, s.heap.size ≤ q → F q) (hZ : zF az F s s.heap) (hS : va_S F s.heap H locs) (hU : U.heap = H) (hW : s.WarmedH U.vm) : uPk az H.size av av.toArray U := by
  refine ⟨rfl, by rw [hU], ?_⟩
  rw [hU]
  exact zF.narrow ((zF.warm hW hZ).kept hS.2.1) (fun q h => hA q (Nat.le_trans hS.1 h))
section GK
variable {l : Launch} {az : Nat → Nat} {y : MethodName} {ws ws' : List Cond} {rm : Room} {maxL : Nat} {av : List Value} {cc : ByteArray}
theorem u_ofK {post : Int32 → Prop} {rt : FieldType} (hy : plainName y.cls = true) (hw : ws = Cond.code y cc maxL (some rt) :: ws') (hav : (lg_sl av).length ≤ maxL)
    (body : ∀ p e s m args below meth c ls, CallFix p m c cc maxL s args ws y.cls → zF az (fun q => s.heap.size ≤ q) s s.heap → meth.sig.returnType = some rt → meth.locks = false → lv_has ls maxL (lv_args 0 av) →
      W p l e rm s m args below meth c s.heap [] 0 0 (MQ below (vp_Si post) args s 0 0 (fun _ => False)) (F0 m 0 ls [])) : uMk l y ws rm az av post := by
  intro sz
  refine Met.ofW (cc := cc) (maxL := maxL) (ret := some rt) hy hw ?_
  intro p e s m args below meth c s₁ B hml hv
  obtain ⟨h0, h1, h2⟩ := hv
  subst h1
  rw [h0, lg_entry_eq]
  have hts := atoms_spec (ws := ws) B.pre
  rw [h0] at hts
  exact body p e s m av.toArray below meth c _ ⟨B.exec, B.bytes, hml, findClass_of_methodNamed B.named, hts⟩ h2 B.returns B.notSynchronized (lv_entry av hav)
theorem u_ofKv {post : Prop} (hy : plainName y.cls = true) (hw : ws = Cond.code y cc maxL none :: ws') (hav : (lg_sl av).length ≤ maxL)
    (body : ∀ p e s m args below meth c ls, CallFix p m c cc maxL s args ws y.cls → zF az (fun q => s.heap.size ≤ q) s s.heap → meth.sig.returnType = none → meth.locks = false → lv_has ls maxL (lv_args 0 av) →
      W p l e rm s m args below meth c s.heap [] 0 0 (MQ below (va_Sv (fun _ => post)) args s 0 0 (fun _ => False)) (F0 m 0 ls [])) : uMkv l y ws rm az av post := by
  intro sz
  refine Met.ofW (cc := cc) (maxL := maxL) (ret := none) hy hw ?_
  intro p e s m args below meth c s₁ B hml hv
  obtain ⟨h0, h1, h2⟩ := hv
  subst h1
  rw [h0, lg_entry_eq]
  have hts := atoms_spec (ws := ws) B.pre
  rw [h0] at hts
  exact body p e s m av.toArray below meth c _ ⟨B.exec, B.bytes, hml, findClass_of_methodNamed B.named, hts⟩ h2 B.returns B.notSynchronized (lv_entry av hav)
end GK
section GKC
variable {p : Program} {l : Launch} {e : Env} {R : Room} {s : State} {m : MethodId} {args : Array Value} {below : List Frame} {meth : Method} {c : Code} {H : Heap} {locs : List Loc} {cells slots : Nat} {Q : State → Prop}
variable {pc : Nat} {ls : Array Slot} {rest st0 : List Value} {cc : ByteArray} {nL : Nat} {Ts : List Cond} {own : String} {a : Array Value} {az : Nat → Nat} {F : Nat → Prop}
variable {y : MethodName} {bytes : ByteArray} {maxL k index : Nat} {ws : List Cond} {rm : Room} {As : List Value} {rt : FieldType} {lv : List (Nat × Value)}
theorem S_vret {post : Prop} (hC : CallFix p m c cc nL s args Ts own) (hr : meth.sig.returnType = none) (hk : meth.locks = false) (hp : post) (hdg : decode cc pc = .ok (.return_, 1)) :
    W p l e R s m args below meth c s.heap [] 0 0 (MQ below (va_Sv (fun _ => post)) args s 0 0 (fun _ => False)) (F0 m pc ls []) :=
  W.vret hC.1 hC.2.1 hr (fun t ht _ => ⟨rfl, hp, ht⟩) (fun _ h => by cases h) hdg hk
theorem G_runSv {post : Prop} (hr : va_Run p l e R s m args below meth c H locs cells slots 0 0 (F0 m pc ls st0) rest (va_Sv (fun _ => post) a) (fun _ => False))
    (kk : post → W p l e R s m args below meth c H locs cells slots Q (F0 m (pc + 3) ls rest)) : W p l e R s m args below meth c H locs cells slots Q (F0 m pc ls st0) := by
  intro T hT X
  obtain ⟨v, st₀, t, T', L, h0, X', hL, e1, e2, ⟨hv, hp, hh⟩, st⟩ := hr T hT X
  cases hv
  have hL0 : L = [] := by
    cases L with
    | nil => rfl
    | cons q _ => exact (hL q List.mem_cons_self).elim
  subst hL0
  rw [List.append_nil] at X'
  obtain ⟨t2, a1, b1⟩ := kk hp T' (by rw [e1, hh, h0]) X'
  exact ⟨t2, st t2 a1, b1⟩
theorem G_callSk {post : Int32 → Prop} (hC : CallFix p m c cc nL s args Ts own) (hA : ∀ q : Nat, s.heap.size ≤ q → F q) (hZ : zF az F s s.heap) (hS : va_S F s.heap H locs) (hM : uMk l y ws rm az As post) (cw : CallB R s args own index y bytes maxL (some rt) ws rm 0 0 k ∧ (Cond.static y).before args s = true)
    (hn : As.length = k) (hl : lv_has ls nL lv) (hst : st0 = As.reverse ++ rest) (hW : (rest.map fun v => v.category).sum ≤ 8) (hdg : decode cc pc = .ok (.invokestatic index, 3)) (hc : cells ≤ R.cells) (hs : slots ≤ R.slots)
    (kk : ∀ r : Int32, post r → W p l e R s m args below meth c H locs cells slots Q (F0 m (pc + 3) ls (.int r :: rest))) : W p l e R s m args below meth c H locs cells slots Q (F0 m pc ls st0) := by
  subst hst
  exact G_runSs (va_runS (As := As) (rest := rest) hC (hM H.size) cw ⟨uPk_blind, fun U hU hW => uPk_at hA hZ hS hU hW⟩ rfl hn hl.1 rfl (lv_room hW) hdg ⟨hc, hs⟩) kk
theorem G_callSkv {post : Prop} (hC : CallFix p m c cc nL s args Ts own) (hA : ∀ q : Nat, s.heap.size ≤ q → F q) (hZ : zF az F s s.heap) (hS : va_S F s.heap H locs) (hM : uMkv l y ws rm az As post) (cw : CallB R s args own index y bytes maxL none ws rm 0 0 k ∧ (Cond.static y).before args s = true)
    (hn : As.length = k) (hl : lv_has ls nL lv) (hst : st0 = As.reverse ++ rest) (hW : (rest.map fun v => v.category).sum ≤ 8) (hdg : decode cc pc = .ok (.invokestatic index, 3)) (hc : cells ≤ R.cells) (hs : slots ≤ R.slots)
    (kk : post → W p l e R s m args below meth c H locs cells slots Q (F0 m (pc + 3) ls rest)) : W p l e R s m args below meth c H locs cells slots Q (F0 m pc ls st0) := by
  subst hst
  exact G_runSv (va_runS (As := As) (rest := rest) hC (hM H.size) cw ⟨uPk_blind, fun U hU hW => uPk_at hA hZ hS hU hW⟩ rfl hn hl.1 rfl (lv_room hW) hdg ⟨hc, hs⟩) kk
theorem G_callVk {post : Int32 → Prop} {i : Nat} (hi : i < 3) (hC : CallFix p m c cc nL s args Ts own) (hA : ∀ q : Nat, s.heap.size ≤ q → F q) (hZ : zF az F s s.heap) (hS : va_S F s.heap H locs) (hM : uMk l y ws rm az (.ref (az (5 + i)) :: As) post) (cw : CallW R s args own "java/lang/String" index y bytes maxL (some rt) ws rm 0 0 k)
    (hn : As.length = k) (hl : lv_has ls nL lv) (hst : st0 = As.reverse ++ .ref (az (5 + i)) :: rest) (hW : (rest.map fun v => v.category).sum ≤ 8) (hdg : decode cc pc = .ok (.invokevirtual index, 3)) (hc : cells ≤ R.cells) (hs : slots ≤ R.slots)
    (kk : ∀ r : Int32, post r → W p l e R s m args below meth c H locs cells slots Q (F0 m (pc + 3) ls (.int r :: rest))) : W p l e R s m args below meth c H locs cells slots Q (F0 m pc ls st0) := by
  subst hst
  exact G_runSs (va_runV (As := As) (rest := rest) hC (hM H.size) cw ⟨uPk_blind, vk_recv (adK := fun i => az (5 + i)) hZ.vs hi hS, fun U hU hW => uPk_at hA hZ hS hU hW⟩ rfl hn hl.1 rfl (lv_room hW) hdg ⟨hc, hs⟩) kk
variable {D : va_G} {cs ad : Nat → Nat} {n : Nat} {A : Nat → Option (Nat × Nat)} {O : (Nat → Int32) → Nat → va_E} {g : St}
theorem G_callSv {post : St → Prop} (hC : uC p m c cc nL s args Ts own D cs az F) (hM : uMv l y ws rm D cs az (uW n A O cs ad) As g post) (cw : CallB R s args own index y bytes maxL none ws rm 0 0 k ∧ (Cond.static y).before args s = true)
    (hn : As.length = k) (hl : lv_has ls nL lv) (hst : st0 = As.reverse ++ rest) (hW : (rest.map fun v => v.category).sum ≤ 8) (hdg : decode cc pc = .ok (.invokestatic index, 3)) (hE : uE D n A O cs ad F s g H locs)
    (kk : ∀ (g' : St) (H : Heap) (locs : List Loc), post g' → uE D n A O cs ad F s g' H locs → W p l e R s m args below meth c H locs 0 0 Q (F0 m (pc + 3) ls rest)) : W p l e R s m args below meth c H locs 0 0 Q (F0 m pc ls st0) := by
  subst hst
  exact va_callv (va_runS (As := As) (rest := rest) hC.1 (hM H.size) cw ⟨uP_blind, fun U hU hW => uP_at hC.2.1 hC.2.2.1 hC.2.2.2 hE hU hW⟩ rfl hn hl.1 rfl (lv_room hW) hdg ⟨Nat.zero_le _, Nat.zero_le _⟩) hE.2.2 (fun q _ h => uE_free hC.2.2.1 hE q h) (uE_free hC.2.2.1 hE)
    (fun u t H1 l1 ht _ hp hB _ _ hS => kk u H1 l1 hp (uE_call (post := fun _ => True) hE ht hB hS))
theorem G_alen (hC : uC p m c cc nL s args Ts own D cs az F) (hE : uE D n A O cs ad F s g H locs) {k N : Nat} (hf : k < n ∧ A k = some (0, N)) (hdg : decode cc pc = .ok (.arraylength, 1))
    (kk : W p l e R s m args below meth c H locs cells slots Q (F0 m (pc + 1) ls (.int (nI N) :: rest))) : W p l e R s m args below meth c H locs cells slots Q (F0 m pc ls (.ref (ad k) :: rest)) :=
  va_alen hC.1.1 hC.1.2.1 hC.2.1 hE.1 k 0 (uW_arr hf) (ty := .int) rfl rfl hdg kk
end GKC
