/-! PART 02: the state of a system as rows of numbers; its cells; rows of the kit said of it -/
abbrev St : Type := (Nat → Nat → Int32) × (Nat → Int32)
def sA (g : St) (j : Nat) (f : Nat → Int32) : St := (fun k => if k = j then f else g.1 k, g.2)
def sS (g : St) (j : Nat) (v : Int32) : St := (g.1, fun k => if k = j then v else g.2 k)
/-- the cells: n of them; A says which are arrays (which class of cs, how long), O what the others are -/
def uX (A : Nat → Option (Nat × Nat)) (O : (Nat → Int32) → Nat → va_E) (cs : Nat → ClassId) (g : St) (k : Nat) : va_E := match A k with
  | some (t, n) => .inl (cs t, n, .inl (g.1 k))
  | none => O g.2 k
def uW (n : Nat) (A : Nat → Option (Nat × Nat)) (O : (Nat → Int32) → Nat → va_E) (cs : Nat → ClassId) (a : Nat → Nat) (g : St) : va_W := (List.range n).map fun k => (a k, uX A O cs g k)
section UW
variable {n : Nat} {A : Nat → Option (Nat × Nat)} {O : (Nat → Int32) → Nat → va_E} {cs : Nat → ClassId} {a : Nat → Nat} {g : St}
theorem uW_at {k : Nat} (hk : k < n) : (uW n A O cs a g)[k]? = some (a k, uX A O cs g k) := by
  simp [uW, hk]
theorem uW_arr {k t N : Nat} (h : k < n ∧ A k = some (t, N)) : (uW n A O cs a g)[k]? = some (a k, .inl (cs t, N, .inl (g.1 k))) := by
  rw [uW_at h.1, uX, h.2]
theorem uW_obj {k : Nat} {e : va_E} (h : k < n ∧ A k = none) (ho : O g.2 k = e) : (uW n A O cs a g)[k]? = some (a k, e) := by
  rw [uW_at h.1, uX, h.2, ← ho]
theorem uW_set {k : Nat} {e : va_E} {g' : St} (h1 : uX A O cs g' k = e) (h2 : ∀ i, i < n → i ≠ k → uX A O cs g' i = uX A O cs g i) : (uW n A O cs a g).set k (a k, e) = uW n A O cs a g' := by
  apply List.ext_getElem?
  intro i
  rw [List.getElem?_set]
  by_cases hk : k = i
  · subst hk
    simp only [↓reduceIte]
    by_cases hn : k < n
    · simp [uW, hn, h1]
    · simp [uW, hn]
  · rw [if_neg hk]
    by_cases hn : i < n
    · rw [uW_at hn, uW_at hn, h2 i hn (fun h => hk h.symm)]
    · simp [uW, hn]
theorem uW_setA {k t N : Nat} {f : Nat → Int32} (h : k < n ∧ A k = some (t, N)) : (uW n A O cs a g).set k (a k, .inl (cs t, N, .inl f)) = uW n A O cs a (sA g k f) := by
  apply uW_set
  · simp [uX, h.2, sA]
  · intro i _ hik
    simp only [uX, sA, if_neg hik]
theorem uW_setS {k j : Nat} {v : Int32} {e : va_E} (h : k < n ∧ A k = none) (he : O (sS g j v).2 k = e) (hn : ∀ i, i < n → i ≠ k → O (sS g j v).2 i = O g.2 i) : (uW n A O cs a g).set k (a k, e) = uW n A O cs a (sS g j v) := by
  apply uW_set
  · rw [uX, h.2, ← he]
  · intro i hi hik
    simp only [uX]
    cases A i with
    | none => exact hn i hi hik
    | some q => rfl
theorem uW_adr {g' : St} : (uW n A O cs a g).map Prod.fst = (uW n A O cs a g').map Prod.fst := by
  simp [uW, Function.comp_def]
theorem uW_dis {F : Nat → Prop} {g' : St} (h : va_D F (uW n A O cs a g)) : va_D F (uW n A O cs a g') := by
  have key : ∀ (i : Nat) (q : Nat × va_E), (uW n A O cs a g')[i]? = some q → ∃ q' : Nat × va_E, (uW n A O cs a g)[i]? = some q' ∧ q'.1 = q.1 := by
    intro i q hq
    by_cases hi : i < n
    · rw [uW_at hi] at hq
      cases hq
      exact ⟨_, uW_at hi, rfl⟩
    · simp [uW, hi] at hq
  refine ⟨fun i j p q hp hq e => ?_, fun k q hq => ?_⟩
  · obtain ⟨p', h1, e1⟩ := key i p hp
    obtain ⟨q', h2, e2⟩ := key j q hq
    exact h.1 i j p' q' h1 h2 (by rw [e1, e2, e])
  · obtain ⟨q', h1, e1⟩ := key k q hq
    rw [← e1]
    exact h.2 k q' h1
theorem uW_A {sz : Nat} {g' : St} {q : Nat} (h : va_A (uW n A O cs a g) sz q) : va_A (uW n A O cs a g') sz q := by
  rcases h with ⟨k, e, h⟩ | h
  · by_cases hk : k < n
    · rw [uW_at hk] at h
      cases h
      exact Or.inl ⟨k, _, uW_at hk⟩
    · simp [uW, hk] at h
  · exact Or.inr h
end UW
/-- the array classes that the worlds know -/
abbrev gT (cs : Nat → ClassId) : List (ClassId × FieldType) := [(cs 0, .int), (cs 1, .char), (cs 2, .byte), (cs 3, .object "SeedBattle$Index"), (cs 4, .object "SeedBattle$Copy")]

def gA : Nat → Option (Nat × Nat) := fun k => match k with
  | 3 => some (1, 64)
  | 5 => some (0, 24)
  | 6 => some (0, 24)
  | 7 => some (0, 24)
  | 8 => some (0, 24)
  | 9 => some (0, 24)
  | 10 => some (0, 4)
  | 13 => some (1, 64)
  | 15 => some (0, 24)
  | 16 => some (0, 24)
  | 17 => some (0, 24)
  | 18 => some (0, 24)
  | 19 => some (0, 24)
  | 20 => some (0, 4)
  | 22 => some (0, 4800)
  | 23 => some (0, 24)
  | 26 => some (0, 4)
  | 27 => some (0, 4)
  | 29 => some (0, 61)
  | 31 => some (0, 61)
  | 33 => some (0, 61)
  | 35 => some (0, 61)
  | 37 => some (0, 60)
  | 38 => some (0, 60)
  | 39 => some (0, 60)
  | 41 => some (0, 60)
  | 42 => some (0, 60)
  | 43 => some (0, 60)
  | 45 => some (0, 60)
  | 46 => some (0, 60)
  | 47 => some (0, 60)
  | 49 => some (0, 60)
  | 50 => some (0, 60)
  | 51 => some (0, 60)
  | _ => none
def gO (cs : Nat → ClassId) (a : Nat → Nat) (sc : Nat → Int32) : Nat → va_E := fun k => match k with
  | 0 => .inr (8, [.ref (a 1), .ref (a 11), .ref (a 21), .ref (a 24), .ref (a 25), .ref (a 26), .ref (a 27), .int (sc 0), .int (sc 1), .int (sc 2)])
  | 1 => .inr (3, [.ref (a 2), .ref (a 4), .ref (a 9), .ref (a 10)])
  | 2 => .inr (5, [.ref (a 3)])
  | 4 => .inr (7, [.ref (a 5), .ref (a 6), .ref (a 7), .ref (a 8), .int (sc 3)])
  | 11 => .inr (3, [.ref (a 12), .ref (a 14), .ref (a 19), .ref (a 20)])
  | 12 => .inr (5, [.ref (a 13)])
  | 14 => .inr (7, [.ref (a 15), .ref (a 16), .ref (a 17), .ref (a 18), .int (sc 4)])
  | 21 => .inr (6, [.ref (a 22), .ref (a 23)])
  | 24 => .inl (cs 3, 4, .inr (.inr (.inr (.inr (fun i => some (a (28 + 2 * i)))))))
  | 25 => .inl (cs 4, 4, .inr (.inr (.inr (.inr (fun i => some (a (36 + 4 * i)))))))
  | 28 => .inr (4, [.ref (a 29), .int (sc 10)])
  | 30 => .inr (4, [.ref (a 31), .int (sc 11)])
  | 32 => .inr (4, [.ref (a 33), .int (sc 12)])
  | 34 => .inr (4, [.ref (a 35), .int (sc 13)])
  | 36 => .inr (2, [.ref (a 37), .ref (a 38), .ref (a 39), .int (sc 20), .int (sc 24), .int (sc 28), .int (sc 32)])
  | 40 => .inr (2, [.ref (a 41), .ref (a 42), .ref (a 43), .int (sc 21), .int (sc 25), .int (sc 29), .int (sc 33)])
  | 44 => .inr (2, [.ref (a 45), .ref (a 46), .ref (a 47), .int (sc 22), .int (sc 26), .int (sc 30), .int (sc 34)])
  | 48 => .inr (2, [.ref (a 49), .ref (a 50), .ref (a 51), .int (sc 23), .int (sc 27), .int (sc 31), .int (sc 35)])
  | _ => .inr (0, [])
abbrev gW (cs : Nat → ClassId) (a : Nat → Nat) (g : St) : va_W := uW 52 gA (gO cs a) cs a g
theorem f_game {cs : Nat → ClassId} {a : Nat → Nat} : (0 < 52 ∧ gA 0 = none) ∧ ∀ sc, gO cs a sc 0 = .inr (8, [.ref (a 1), .ref (a 11), .ref (a 21), .ref (a 24), .ref (a 25), .ref (a 26), .ref (a 27), .int (sc 0), .int (sc 1), .int (sc 2)]) := ⟨⟨by decide, rfl⟩, fun _ => rfl⟩
theorem f_field {cs : Nat → ClassId} {a : Nat → Nat} {w : Nat} (h : w < 2) : (1 + 10 * w < 52 ∧ gA (1 + 10 * w) = none) ∧ ∀ sc, gO cs a sc (1 + 10 * w) = .inr (3, [.ref (a (2 + 10 * w)), .ref (a (4 + 10 * w)), .ref (a (9 + 10 * w)), .ref (a (10 + 10 * w))]) := by
  match w, h with
  | 0, _ => exact ⟨⟨by decide, rfl⟩, fun _ => rfl⟩
  | 1, _ => exact ⟨⟨by decide, rfl⟩, fun _ => rfl⟩
theorem f_land {cs : Nat → ClassId} {a : Nat → Nat} {w : Nat} (h : w < 2) : (2 + 10 * w < 52 ∧ gA (2 + 10 * w) = none) ∧ ∀ sc, gO cs a sc (2 + 10 * w) = .inr (5, [.ref (a (3 + 10 * w))]) := by
  match w, h with
  | 0, _ => exact ⟨⟨by decide, rfl⟩, fun _ => rfl⟩
  | 1, _ => exact ⟨⟨by decide, rfl⟩, fun _ => rfl⟩
theorem f_grounds {w : Nat} (h : w < 2) : 3 + 10 * w < 52 ∧ gA (3 + 10 * w) = some (1, 64) := by
  match w, h with
  | 0, _ => exact ⟨by decide, rfl⟩
  | 1, _ => exact ⟨by decide, rfl⟩
theorem f_units {cs : Nat → ClassId} {a : Nat → Nat} {w : Nat} (h : w < 2) : (4 + 10 * w < 52 ∧ gA (4 + 10 * w) = none) ∧ ∀ sc, gO cs a sc (4 + 10 * w) = .inr (7, [.ref (a (5 + 10 * w)), .ref (a (6 + 10 * w)), .ref (a (7 + 10 * w)), .ref (a (8 + 10 * w)), .int (sc (3 + w))]) := by
  match w, h with
  | 0, _ => exact ⟨⟨by decide, rfl⟩, fun _ => rfl⟩
  | 1, _ => exact ⟨⟨by decide, rfl⟩, fun _ => rfl⟩
theorem f_owners {w : Nat} (h : w < 2) : 5 + 10 * w < 52 ∧ gA (5 + 10 * w) = some (0, 24) := by
  match w, h with
  | 0, _ => exact ⟨by decide, rfl⟩
  | 1, _ => exact ⟨by decide, rfl⟩
theorem f_kinds {w : Nat} (h : w < 2) : 6 + 10 * w < 52 ∧ gA (6 + 10 * w) = some (0, 24) := by
  match w, h with
  | 0, _ => exact ⟨by decide, rfl⟩
  | 1, _ => exact ⟨by decide, rfl⟩
theorem f_starts {w : Nat} (h : w < 2) : 7 + 10 * w < 52 ∧ gA (7 + 10 * w) = some (0, 24) := by
  match w, h with
  | 0, _ => exact ⟨by decide, rfl⟩
  | 1, _ => exact ⟨by decide, rfl⟩
theorem f_places {w : Nat} (h : w < 2) : 8 + 10 * w < 52 ∧ gA (8 + 10 * w) = some (0, 24) := by
  match w, h with
  | 0, _ => exact ⟨by decide, rfl⟩
  | 1, _ => exact ⟨by decide, rfl⟩
theorem f_wants {w : Nat} (h : w < 2) : 9 + 10 * w < 52 ∧ gA (9 + 10 * w) = some (0, 24) := by
  match w, h with
  | 0, _ => exact ⟨by decide, rfl⟩
  | 1, _ => exact ⟨by decide, rfl⟩
theorem f_powers {w : Nat} (h : w < 2) : 10 + 10 * w < 52 ∧ gA (10 + 10 * w) = some (0, 4) := by
  match w, h with
  | 0, _ => exact ⟨by decide, rfl⟩
  | 1, _ => exact ⟨by decide, rfl⟩
theorem f_orders {cs : Nat → ClassId} {a : Nat → Nat} : (21 < 52 ∧ gA 21 = none) ∧ ∀ sc, gO cs a sc 21 = .inr (6, [.ref (a 22), .ref (a 23)]) := ⟨⟨by decide, rfl⟩, fun _ => rfl⟩
theorem f_dirs : 22 < 52 ∧ gA 22 = some (0, 4800) := ⟨by decide, rfl⟩
theorem f_given : 23 < 52 ∧ gA 23 = some (0, 24) := ⟨by decide, rfl⟩
theorem f_treaties : 26 < 52 ∧ gA 26 = some (0, 4) := ⟨by decide, rfl⟩
theorem f_sights : 27 < 52 ∧ gA 27 = some (0, 4) := ⟨by decide, rfl⟩
theorem f_index {cs : Nat → ClassId} {a : Nat → Nat} {p : Nat} (h : p < 4) : (28 + 2 * p < 52 ∧ gA (28 + 2 * p) = none) ∧ ∀ sc, gO cs a sc (28 + 2 * p) = .inr (4, [.ref (a (29 + 2 * p)), .int (sc (10 + p))]) := by
  match p, h with
  | 0, _ => exact ⟨⟨by decide, rfl⟩, fun _ => rfl⟩
  | 1, _ => exact ⟨⟨by decide, rfl⟩, fun _ => rfl⟩
  | 2, _ => exact ⟨⟨by decide, rfl⟩, fun _ => rfl⟩
  | 3, _ => exact ⟨⟨by decide, rfl⟩, fun _ => rfl⟩
theorem f_numbers {p : Nat} (h : p < 4) : 29 + 2 * p < 52 ∧ gA (29 + 2 * p) = some (0, 61) := by
  match p, h with
  | 0, _ => exact ⟨by decide, rfl⟩
  | 1, _ => exact ⟨by decide, rfl⟩
  | 2, _ => exact ⟨by decide, rfl⟩
  | 3, _ => exact ⟨by decide, rfl⟩
theorem f_copy {cs : Nat → ClassId} {a : Nat → Nat} {p : Nat} (h : p < 4) : (36 + 4 * p < 52 ∧ gA (36 + 4 * p) = none) ∧ ∀ sc, gO cs a sc (36 + 4 * p) = .inr (2, [.ref (a (37 + 4 * p)), .ref (a (38 + 4 * p)), .ref (a (39 + 4 * p)), .int (sc (20 + p)), .int (sc (24 + p)), .int (sc (28 + p)), .int (sc (32 + p))]) := by
  match p, h with
  | 0, _ => exact ⟨⟨by decide, rfl⟩, fun _ => rfl⟩
  | 1, _ => exact ⟨⟨by decide, rfl⟩, fun _ => rfl⟩
  | 2, _ => exact ⟨⟨by decide, rfl⟩, fun _ => rfl⟩
  | 3, _ => exact ⟨⟨by decide, rfl⟩, fun _ => rfl⟩
theorem f_cnums {p : Nat} (h : p < 4) : 37 + 4 * p < 52 ∧ gA (37 + 4 * p) = some (0, 60) := by
  match p, h with
  | 0, _ => exact ⟨by decide, rfl⟩
  | 1, _ => exact ⟨by decide, rfl⟩
  | 2, _ => exact ⟨by decide, rfl⟩
  | 3, _ => exact ⟨by decide, rfl⟩
theorem f_cpar {p : Nat} (h : p < 4) : 38 + 4 * p < 52 ∧ gA (38 + 4 * p) = some (0, 60) := by
  match p, h with
  | 0, _ => exact ⟨by decide, rfl⟩
  | 1, _ => exact ⟨by decide, rfl⟩
  | 2, _ => exact ⟨by decide, rfl⟩
  | 3, _ => exact ⟨by decide, rfl⟩
theorem f_corig {p : Nat} (h : p < 4) : 39 + 4 * p < 52 ∧ gA (39 + 4 * p) = some (0, 60) := by
  match p, h with
  | 0, _ => exact ⟨by decide, rfl⟩
  | 1, _ => exact ⟨by decide, rfl⟩
  | 2, _ => exact ⟨by decide, rfl⟩
  | 3, _ => exact ⟨by decide, rfl⟩
theorem f_idxs {cs : Nat → ClassId} {a : Nat → Nat} : (24 < 52 ∧ gA 24 = none) ∧ ∀ sc, gO cs a sc 24 = .inl (cs 3, 4, .inr (.inr (.inr (.inr (fun i => some (a (28 + 2 * i))))))) := ⟨⟨by decide, rfl⟩, fun _ => rfl⟩
theorem f_cpys {cs : Nat → ClassId} {a : Nat → Nat} : (25 < 52 ∧ gA 25 = none) ∧ ∀ sc, gO cs a sc 25 = .inl (cs 4, 4, .inr (.inr (.inr (.inr (fun i => some (a (36 + 4 * i))))))) := ⟨⟨by decide, rfl⟩, fun _ => rfl⟩
theorem gO_off {cs : Nat → ClassId} {a : Nat → Nat} {sc sc2 : Nat → Int32} {k : Nat} (h : match k with
  | 0 => sc 0 = sc2 0 ∧ sc 1 = sc2 1 ∧ sc 2 = sc2 2
  | 4 => sc 3 = sc2 3
  | 14 => sc 4 = sc2 4
  | 28 => sc 10 = sc2 10
  | 30 => sc 11 = sc2 11
  | 32 => sc 12 = sc2 12
  | 34 => sc 13 = sc2 13
  | 36 => sc 20 = sc2 20 ∧ sc 24 = sc2 24 ∧ sc 28 = sc2 28 ∧ sc 32 = sc2 32
  | 40 => sc 21 = sc2 21 ∧ sc 25 = sc2 25 ∧ sc 29 = sc2 29 ∧ sc 33 = sc2 33
  | 44 => sc 22 = sc2 22 ∧ sc 26 = sc2 26 ∧ sc 30 = sc2 30 ∧ sc 34 = sc2 34
  | 48 => sc 23 = sc2 23 ∧ sc 27 = sc2 27 ∧ sc 31 = sc2 31 ∧ sc 35 = sc2 35
  | _ => True) : gO cs a sc k = gO cs a sc2 k := by
  unfold gO
  split <;> simp_all
