/-! PART 80: the law's loop keeps the relation, and its start has it -/
section LW
variable {x0 x1 x2 x3 : Int32} {g mu : St} {f : Nat → Int64} {fd : Nat → UInt64} {K : St → (Nat → Int64) → (Nat → UInt64) → St → Prop}
theorem cs_ok (j : Nat) (hR : Rel g mu) (hK : ∀ g' f' fd' mu', Rel g' mu' → K g' f' fd' mu') : V_cs j x1 x2 x3 g f fd mu K := by
  match j with
  | 0 => exact case0_ok (x1 := x1) (x2 := x2) (x3 := x3) hR hK
  | 1 => exact case1_ok (x1 := x1) (x2 := x2) (x3 := x3) hR hK
  | 2 => exact case2_ok (x1 := x1) (x2 := x2) (x3 := x3) hR hK
  | 3 => exact case3_ok (x1 := x1) (x2 := x2) (x3 := x3) hR hK
  | 4 => exact case4_ok (x1 := x1) (x2 := x2) (x3 := x3) hR hK
  | 5 => exact case5_ok (x1 := x1) (x2 := x2) (x3 := x3) hR hK
  | 6 => exact case6_ok (x1 := x1) (x2 := x2) (x3 := x3) hR hK
  | 7 => exact case7_ok (x1 := x1) (x2 := x2) (x3 := x3) hR hK
  | 8 => exact case8_ok (x1 := x1) (x2 := x2) (x3 := x3) hR hK
  | 9 => exact case9_ok (x1 := x1) (x2 := x2) (x3 := x3) hR hK
  | 10 => exact case10_ok (x1 := x1) (x2 := x2) (x3 := x3) hR hK
  | 11 => exact case11_ok (x1 := x1) (x2 := x2) (x3 := x3) hR hK
  | 12 => exact case12_ok (x1 := x1) (x2 := x2) (x3 := x3) hR hK
  | 13 => exact case13_ok (x1 := x1) (x2 := x2) (x3 := x3) hR hK
  | 14 => exact case14_ok (x1 := x1) (x2 := x2) (x3 := x3) hR hK
  | 15 => exact case15_ok (x1 := x1) (x2 := x2) (x3 := x3) hR hK
  | 16 => exact case16_ok (x1 := x1) (x2 := x2) (x3 := x3) hR hK
  | 17 => exact case17_ok (x1 := x1) (x2 := x2) (x3 := x3) hR hK
  | 18 => exact case18_ok (x1 := x1) (x2 := x2) (x3 := x3) hR hK
  | 19 => exact case19_ok (x1 := x1) (x2 := x2) (x3 := x3) hR hK
  | 20 => exact case20_ok (x1 := x1) (x2 := x2) (x3 := x3) hR hK
  | 21 => exact case21_ok (x1 := x1) (x2 := x2) (x3 := x3) hR hK
  | 22 => exact case22_ok (x1 := x1) (x2 := x2) (x3 := x3) hR hK
  | 23 => exact case23_ok (x1 := x1) (x2 := x2) (x3 := x3) hR hK
  | 24 => exact case24_ok (x1 := x1) (x2 := x2) (x3 := x3) hR hK
  | 25 => exact case25_ok (x1 := x1) (x2 := x2) (x3 := x3) hR hK
  | j + 26 => exact hK _ _ _ _ hR
theorem law_ok (xs : Nat → Int32) : ∀ (k n : Nat) (g : St) (f : Nat → Int64) (fd : Nat → UInt64) (mu : St), Rel g mu → LawOK xs k n g f fd mu := by
  intro k
  induction k with
  | zero => intro n g f fd mu _; trivial
  | succ k ih =>
    intro n g f fd mu hR
    show V_step _ _ _ _ g f fd mu _
    intro j hj _
    exact cs_ok j hR (fun g' f' fd' mu' h => ih (n + 1) g' f' fd' mu' h)
end LW
theorem axF_0 (F : Nat → Nat × (Nat → Nat)) (k : Nat) : ∀ q, axF F (fun _ => false) k q = 0 := by
  intro q
  induction q with
  | zero => rfl
  | succ q ih =>
    show (if false = true then _ else axF F (fun _ => false) k q) = 0
    rw [if_neg (by decide)]
    exact ih
theorem rel_start {G : Nat → Int32} (h3 : ∀ i : Nat, i < 64 → G i = nI (gN 0 i)) : Rel (sA gI 3 G) g00 := by
  have z1 : ∀ k : Nat, k ≠ 3 → k ≠ 22 → ∀ j, (sA gI 3 G).1 k j = 0 := fun k hk hk2 j => by
    rw [sA_ne _ _ hk]
    show (if k = 22 then (fun j : Nat => if j < 4800 then (-1 : Int32) else 0) else fun _ => 0) j = 0
    rw [if_neg hk2]
  have z2 : ∀ k, (sA gI 3 G).2 k = 0 := fun k => rfl
  have z22 : ∀ j : Nat, j < 4800 → (sA gI 3 G).1 22 j = -1 := fun j hj => by
    rw [sA_ne _ _ (by decide)]
    show (if j < 4800 then (-1 : Int32) else 0) = -1
    rw [if_pos hj]
  refine Rel_mk (sd := 0) (n := 0) (t := 0) (sv := false) (ow := fun _ => 0) (kk := fun _ => 0) (s0 := fun _ => 0) (D := fun _ _ _ => 8) (m := fun _ => 0) (J := fun _ => (0, fun _ => 0)) (tr := fun _ _ => false) (F := fun _ => (0, fun _ => 0)) (bk := fun _ _ => false) (al := fun _ _ => false) (en := fun _ _ => false) ?_ ?_ ?_
  · refine ⟨⟨z2 3, by omega, fun i hi => ?_, fun u hu => absurd hu (Nat.not_lt_zero u)⟩, z2 0, fun u hu => absurd hu (Nat.not_lt_zero u), fun u hu => absurd hu (Nat.not_lt_zero u), z2 1, ⟨fun t u k ht hu hk => ?_, fun u hu => z1 23 (by decide) (by decide) u⟩, fun p hp => ⟨z2 _, fun k hk => absurd hk (Nat.not_lt_zero k)⟩, fun p hp i hi => ?_, z2 2, fun p hp => ⟨⟨z2 _, fun i hi => ?_, fun i hi => ?_, ⟨fun _ q _ h => absurd h Bool.false_ne_true, fun _ => z2 _⟩, fun k hk => absurd hk (Nat.not_lt_zero k), fun k hk => absurd hk (Nat.not_lt_zero k)⟩, fun k hk => ?_⟩⟩
    · show (sA gI 3 G).1 3 i = _
      rw [sA_eq]
      exact h3 i hi
    · rw [z22 _ (by unfold spN; omega)]
      exact (iI_out (Nat.le_refl 8)).symm
    · rw [z1 26 (by decide) (by decide), b_0, Bool.and_false]
    · rw [z2]; exact b_0 i
    · rw [z2, b_0, Bool.and_false]
    · rw [z1 _ (by omega) (by omega), axF_0]
      show (0 : Int32) = nI (nuN (0, fun _ => 0) k) ^^^ 0
      rw [show nuN (0, fun _ => 0) k = 0 from if_neg (Nat.not_lt_zero k)]
      rfl
  · exact ⟨⟨rfl, rfl, by omega, fun u hu => absurd hu (Nat.not_lt_zero u)⟩, fun u hu => absurd hu (Nat.not_lt_zero u), rfl, fun u hu => ⟨rfl, fun h => absurd h (Nat.not_lt_zero 0), fun h => absurd h (Nat.not_lt_zero 1)⟩, fun p hp => ⟨rfl, fun k hk => absurd hk (Nat.not_lt_zero k)⟩, fun p q hp hq => rfl, rfl, fun p hp => ⟨rfl, fun k hk => absurd hk (Nat.not_lt_zero k), fun b hb => rfl, fun q hq => rfl, fun q hq => rfl⟩⟩
  · exact ⟨by omega, ⟨fun u hu => absurd hu (Nat.not_lt_zero u), fun u v hu => absurd hu (Nat.not_lt_zero u)⟩, fun u hu => absurd hu (Nat.not_lt_zero u), ⟨fun u hu => ⟨Nat.zero_le 2, fun _ => rfl, fun k hk => ⟨fun z => absurd z (Nat.not_lt_zero k), fun z => absurd z (Nat.lt_irrefl 8)⟩⟩, fun i k u h1 h2 h3 h4 => rfl⟩, fun p hp => ⟨Nat.zero_le 60, fun k hk => absurd hk (Nat.not_lt_zero k), fun k hk => absurd hk (Nat.not_lt_zero _)⟩, fun p hp => ⟨rfl, fun q hq => rfl⟩, fun p hp => ⟨Nat.zero_le 60, fun k hk => absurd hk (Nat.not_lt_zero k), fun k hk => absurd hk (Nat.not_lt_zero _)⟩, fun p hp i hi => rfl⟩
theorem whole_start {p : Program} {e : Env} {s : State} {m : MethodId} {below : List Frame} {meth : Method} {c : Code} (l : Launch) (hflags : l.flags = flags0) {b L : Nat} {xs : Nat → Int32} (hL : L ≤ 2048) (C0 : lw_At p s m meth c b L xs) : W p l e room_1 s m #[Value.ref b] below meth c s.heap [] 0 0 (lw_Z below #[Value.ref b] s) (entryFrame m ([Value.ref b] : List Value).toArray 9) := by
  refine law_whole l hflags hL C0 ?_
  refine s_grow (w := 0) ?_
  exact law_ok xs (L / 4) 0 _ _ _ _ (rel_start (fun i hi => if_pos hi))
