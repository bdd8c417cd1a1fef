/-! PART 57: lines of sight -/
def aI (x : Int32) : Int32 := if 0 ≤ x then x else 0 - x
def dfN (a b : Nat) : Nat := if a ≤ b then b - a else a - b
def dsN (a b : Nat) : Nat := max (dfN (a % 8) (b % 8)) (dfN (a / 8) (b / 8))
/-- the class's share, out of two ints -/
def shI (x p : Int32) : Int32 := if 0 ≤ x then (((2 * aI x) + p) - 1) / (2 * p) else -((((2 * aI x) + p) - 1) / (2 * p))
/-- the reference's part -/
def ptI (k d n : Int32) : Int32 := if 0 ≤ d then ((((2 * k) * aI d) + n) - 1) / (2 * n) else -(((((2 * k) * (-d)) + n) - 1) / (2 * n))
theorem ab_ok : ∀ a : Nat, a < 8 → ∀ b : Nat, b < 8 → aI (nI b - nI a) = nI (dfN a b) := by decide +kernel
/-- one coordinate of a cell in between: where it lies -/
def lnN (a b n k : Nat) : Nat := (nI a + shI (nI k * (nI b - nI a)) (nI n)).toNatClampNeg
def lnB (a b n k : Nat) : Bool := decide (n < dfN a b ∨ n ≤ k) || (decide (nI a + shI (nI k * (nI b - nI a)) (nI n) = nI (lnN a b n k)) && decide (lnN a b n k < 8))
theorem lnB_ok : ∀ a : Nat, a < 8 → ∀ b : Nat, b < 8 → ∀ n : Nat, n < 8 → ∀ k : Nat, k < 8 → lnB a b n k = true := by decide +kernel
theorem ln_ok (a : Nat) (ha : a < 8) (b : Nat) (hb : b < 8) (n : Nat) (hn : n < 8) (k : Nat) (hk : k < n) (hd : dfN a b ≤ n) : nI a + shI (nI k * (nI b - nI a)) (nI n) = nI (lnN a b n k) ∧ lnN a b n k < 8 := by
  have h := lnB_ok a ha b hb n hn k (by omega)
  unfold lnB at h
  rw [decide_eq_false (show ¬ (n < dfN a b ∨ n ≤ k) by omega), Bool.false_or, Bool.and_eq_true, decide_eq_true_eq, decide_eq_true_eq] at h
  exact h
def ptB (a b n k : Nat) : Bool := decide (n < dfN a b ∨ n ≤ k ∨ k = 0) || decide (ptI (nI k) (nI b - nI a) (nI n) = shI (nI k * (nI b - nI a)) (nI n))
theorem ptB_ok : ∀ a : Nat, a < 8 → ∀ b : Nat, b < 8 → ∀ n : Nat, n < 8 → ∀ k : Nat, k < 8 → ptB a b n k = true := by decide +kernel
theorem pt_ok (a : Nat) (ha : a < 8) (b : Nat) (hb : b < 8) (n : Nat) (hn : n < 8) (k : Nat) (hk : k < n) (h0 : 0 < k) (hd : dfN a b ≤ n) : ptI (nI k) (nI b - nI a) (nI n) = shI (nI k * (nI b - nI a)) (nI n) := by
  have h := ptB_ok a ha b hb n hn k (by omega)
  unfold ptB at h
  rw [decide_eq_false (show ¬ (n < dfN a b ∨ n ≤ k ∨ k = 0) by omega), Bool.false_or, decide_eq_true_eq] at h
  exact h
theorem nz_ok8 : ∀ n : Nat, n < 8 → n = 0 ∨ ¬ (2 : Int32) * nI n = 0 := by decide +kernel
theorem nz_ok (n : Nat) (h0 : 0 < n) (h8 : n < 8) : ¬ (2 : Int32) * nI n = 0 := (nz_ok8 n h8).resolve_left (by omega)
/-- the cell in between -/
def btN (a b k : Nat) : Nat := 8 * lnN (a / 8) (b / 8) (dsN a b) k + lnN (a % 8) (b % 8) (dsN a b) k
theorem dsN_lt {a b : Nat} (ha : a < 64) (hb : b < 64) : dsN a b < 8 := by
  unfold dsN dfN
  have h1 := Nat.mod_lt a (show 0 < 8 by decide)
  have h2 := Nat.mod_lt b (show 0 < 8 by decide)
  split <;> split <;> omega
theorem xN {a : Nat} (ha : a < 64) : nI a - nI a / 8 * 8 = nI (a % 8) := pk_rem (a := a) (d := 8) (by omega) (by decide) (by decide)
theorem yN {a : Nat} (ha : a < 64) : nI a / 8 = nI (a / 8) := pk_div (a := a) (d := 8) (by omega) (by decide) (by decide)
theorem btN_lt {a b k : Nat} (ha : a < 64) (hb : b < 64) (hk : k < dsN a b) : btN a b k < 64 := by
  have h8 := dsN_lt ha hb
  have h1 := (ln_ok (a / 8) (by omega) (b / 8) (by omega) (dsN a b) h8 k hk (Nat.le_max_right _ _)).2
  have h2 := (ln_ok (a % 8) (Nat.mod_lt _ (by decide)) (b % 8) (Nat.mod_lt _ (by decide)) (dsN a b) h8 k hk (Nat.le_max_left _ _)).2
  unfold btN
  omega
def sgN (k : Nat) : Nat := match k with | 0 => 3 | 1 => 2 | _ => 4
theorem kSights_eq {k : Nat} (hk : k < 3) : kSights k = nI (sgN k) := by
  match k, hk with
  | 0, _ => rfl
  | 1, _ => rfl
  | 2, _ => rfl
  | k + 3, h => exact absurd h (by omega)
/-- what a cell in between lets through -/
def opN (sd : Int32) (a b k : Nat) : Bool := decide (gN sd (btN a b k) ≠ 104) && (decide (gN sd (btN a b k) ≠ 119) || decide (gN sd a = 104))
/-- whether a unit of kind kd on the cell a sees the cell b -/
def seeN (sd : Int32) (kd a b : Nat) : Bool := decide (dsN a b ≤ sgN kd + (if gN sd a = 104 then 1 else 0)) && decide (∀ k, k < dsN a b → 0 < k → opN sd a b k = true)
section LK
variable {w n : Nat} {sd : Int32} {ow kk c : Nat → Nat} {g : St}
theorem s_share {x : Int32} {q : Nat} {post : Int32 → Prop} (h0 : 0 < q) (h8 : q < 8) (h : post (shI x (nI q))) : V_X3_share x (nI q) post := by
  unfold V_X3_share
  refine wp_t (nI_lt h0 (by omega)) ⟨nz_ok q h0 h8, ?_⟩
  unfold shI aI at h
  exact ⟨fun z => by rw [if_pos z] at h; exact h, fun z => by rw [if_neg z] at h; exact h⟩
theorem mx_eq {p q : Nat} (hp : p < 8) (hq : q < 8) : (if nI p < nI q then nI q else nI p) = nI (max p q) := by
  by_cases e : p < q
  · rw [if_pos (nI_lt e (by omega)), Nat.max_eq_right (by omega)]
  · rw [if_neg (nI_nlt (by omega) (by omega)), Nat.max_eq_left (by omega)]
theorem dfN_lt {a b : Nat} (ha : a < 8) (hb : b < 8) : dfN a b < 8 := by
  unfold dfN
  split <;> omega
theorem s_distance {a b : Nat} {post : Int32 → Prop} (ha : a < 64) (hb : b < 64) (h : post (nI (dsN a b))) : V_X3_distance (nI a) (nI b) post := by
  unfold V_X3_distance
  rw [xN ha, xN hb, yN ha, yN hb]
  show post (if aI (nI (b % 8) - nI (a % 8)) < aI (nI (b / 8) - nI (a / 8)) then aI (nI (b / 8) - nI (a / 8)) else aI (nI (b % 8) - nI (a % 8)))
  rw [ab_ok (a % 8) (Nat.mod_lt _ (by decide)) (b % 8) (Nat.mod_lt _ (by decide)), ab_ok (a / 8) (by omega) (b / 8) (by omega), mx_eq (dfN_lt (Nat.mod_lt _ (by decide)) (Nat.mod_lt _ (by decide))) (dfN_lt (by omega) (by omega))]
  exact h
theorem bt_class {a b k : Nat} (ha : a < 64) (hb : b < 64) (hk : k < dsN a b) : (8 * ((nI a / 8) + shI (nI k * ((nI b / 8) - (nI a / 8))) (nI (dsN a b)))) + ((nI a - nI a / 8 * 8) + shI (nI k * ((nI b - nI b / 8 * 8) - (nI a - nI a / 8 * 8))) (nI (dsN a b))) = nI (btN a b k) := by
  have h8 := dsN_lt ha hb
  rw [xN ha, xN hb, yN ha, yN hb]
  rw [(ln_ok (a / 8) (by omega) (b / 8) (by omega) (dsN a b) h8 k hk (Nat.le_max_right _ _)).1, (ln_ok (a % 8) (Nat.mod_lt _ (by decide)) (b % 8) (Nat.mod_lt _ (by decide)) (dsN a b) h8 k hk (Nat.le_max_left _ _)).1]
  show nI 8 * _ + _ = _
  rw [pk_mul, nI_add]
  rfl
theorem s_isClear {a b : Nat} {post : Int32 → St → Prop} (hG : ∀ i : Nat, i < 64 → g.1 (3 + 10 * w) i = nI (gN sd i)) (ha : a < 64) (hb : b < 64)
    (h : post (if ∀ k, k < dsN a b → 0 < k → opN sd a b k = true then 1 else 0) g) : V_X3_isClear w (nI a) (nI b) g post := by
  unfold V_X3_isClear
  have h8 := dsN_lt ha hb
  refine s_distance ha hb (s_at (hG a ha) ha ?_)
  have key : ∀ t : Int32, (t = 0 ↔ ¬ gN sd a = 104) → J_X3_isClear_43 w (nI a) (nI b) post (nI a) ((nI b - nI b / 8 * 8) - (nI a - nI a / 8 * 8)) ((nI b / 8) - (nI a / 8)) (nI (dsN a b)) t g := fun t ht => by
    unfold J_X3_isClear_43
    refine lp_for (dsN a b - 1) (fun k z => z = (nI a, ((nI b - nI b / 8 * 8) - (nI a - nI a / 8 * 8)), ((nI b / 8) - (nI a / 8)), nI (dsN a b), t, nI (k + 1), g) ∧ ∀ j, j < k + 1 → 0 < j → opN sd a b j = true) ?_ ?_ ⟨rfl, fun j h1 h2 => absurd h1 (by omega)⟩
    · rintro K k _ hk ⟨rfl, hop⟩ hK
      show J_X3_isClear_48 w (nI a) (nI b) post K (nI a) _ _ (nI (dsN a b)) t (nI (k + 1)) g
      have hk1 : k + 1 < dsN a b := by omega
      unfold J_X3_isClear_48 J_X3_isClear_123
      refine pk_le (dsN a b) (k + 1) (fun z => absurd z (by omega)) (fun _ => s_share (by omega) h8 (s_share (by omega) h8 ?_))
      rw [bt_class ha hb hk1]
      have hbt := btN_lt ha hb hk1
      refine s_at (hG _ hbt) hbt ?_
      have hlt := gN_lt sd (btN a b (k + 1))
      have no : opN sd a b (k + 1) = false → post 0 g := fun hf => by
        rw [if_neg (fun z => by have := z (k + 1) hk1 (by omega); rw [hf] at this; cases this)] at h
        exact h
      have yes : opN sd a b (k + 1) = true → K (nI a, ((nI b - nI b / 8 * 8) - (nI a - nI a / 8 * 8)), ((nI b / 8) - (nI a / 8)), nI (dsN a b), t, nI (k + 1) + 1, g) := fun hf => hK _ ⟨by rw [nI_up], fun j h1 h2 => by
        by_cases e : j = k + 1
        · rw [e]; exact hf
        · exact hop j (by omega) h2⟩
      refine pk_eq (gN sd (btN a b (k + 1))) 104 (fun e => no ?_) (fun e => And.symm (pk_eq (gN sd (btN a b (k + 1))) 119 (fun e2 => ?_) (fun e2 => yes ?_)))
      · unfold opN; simp [e]
      · by_cases eh : gN sd a = 104
        · refine wp_f2 (fun z => (ht.mp z) eh) (yes ?_) |>.symm.symm
          unfold opN; simp [e, eh]
        · refine wp_t2 (ht.mpr eh) (no ?_)
          unfold opN; simp [e2, eh]
      · unfold opN; simp [e, e2]
    · rintro K _ ⟨rfl, hop⟩
      show J_X3_isClear_48 w (nI a) (nI b) post K (nI a) _ _ (nI (dsN a b)) t (nI (dsN a b - 1 + 1)) g
      unfold J_X3_isClear_48
      rw [if_pos (fun k h1 h2 => hop k (by omega) h2)] at h
      exact pk_le (dsN a b) (dsN a b - 1 + 1) (fun _ => h) (fun z => absurd z (by omega))
  refine And.symm (pk_eq (gN sd a) 104 (fun e => key 1 ?_) (fun e => key 0 ?_) rfl rfl (Nat.lt_trans (gN_lt _ _) (by decide)))
  · exact ⟨fun z => absurd z (by decide), fun z => absurd e z⟩
  · exact ⟨fun _ => e, fun _ => rfl⟩
theorem r_part {k q : Nat} {d : Int32} {post : Int32 → Prop} (h0 : 0 < q) (h8 : q < 8) (h : post (ptI (nI k) d (nI q))) : V_X7_part (nI k) d (nI q) post := by
  unfold V_X7_part J_X7_part_10
  unfold ptI aI at h
  by_cases e : 0 ≤ d
  · rw [if_pos e, if_pos e] at h
    exact wp_t e ⟨nz_ok q h0 h8, wp_t e h⟩
  · rw [if_neg e] at h
    exact wp_f e ⟨nz_ok q h0 h8, wp_f e h⟩
theorem bt_ref {a b k : Nat} (ha : a < 64) (hb : b < 64) (hk : k < dsN a b) (h0 : 0 < k) : ((8 * (nI (a / 8) + ptI (nI k) (nI (b / 8) - nI (a / 8)) (nI (dsN a b)))) + nI (a % 8)) + ptI (nI k) (nI (b % 8) - nI (a % 8)) (nI (dsN a b)) = nI (btN a b k) := by
  have h8 := dsN_lt ha hb
  rw [pt_ok (a / 8) (by omega) (b / 8) (by omega) (dsN a b) h8 k hk h0 (Nat.le_max_right _ _), pt_ok (a % 8) (Nat.mod_lt _ (by decide)) (b % 8) (Nat.mod_lt _ (by decide)) (dsN a b) h8 k hk h0 (Nat.le_max_left _ _)]
  rw [Int32.add_assoc, (ln_ok (a / 8) (by omega) (b / 8) (by omega) (dsN a b) h8 k hk (Nat.le_max_right _ _)).1, (ln_ok (a % 8) (Nat.mod_lt _ (by decide)) (b % 8) (Nat.mod_lt _ (by decide)) (dsN a b) h8 k hk (Nat.le_max_left _ _)).1]
  show nI 8 * _ + _ = _
  rw [pk_mul, nI_add]
  rfl
theorem r_looks {u x : Nat} {post : Int32 → St → Prop} (hs : MUs sd n ow kk g) (hc : MUc n c g) (hC : c u ≤ 64) (hu : u < n) (hx : x < 64)
    (h : post (if c u < 64 ∧ seeN sd (kk u) (c u) x = true then 1 else 0) g) : V_X7_looksAt (nI u) (nI x) g post := by
  obtain ⟨hsd, hn, h24, hU⟩ := hs
  obtain ⟨o1, o2, o3, o4⟩ := hU u hu
  have iu : vp_in (nI u) 24 := vp_in_nI (by omega) (by decide)
  unfold V_X7_looksAt
  refine ⟨iu, ?_⟩
  rw [nI_clamp (by omega), hc u hu]
  by_cases hl : c u < 64
  · rw [iI_in hl]
    refine wp_f2 (nI_m1 (by omega)) ⟨iu, r_ground hl ?_⟩
    rw [hsd]
    have h8 := dsN_lt hl hx
    -- the line, begun with the flag f
    have line : ∀ (t : Int32), (t = 0 ↔ ¬ gN sd (c u) = 104) → ∀ f : Bool, (post (if f = true ∧ ∀ j, j < dsN (c u) x → 0 < j → opN sd (c u) x j = true then 1 else 0) g) → J_X7_looksAt_143 (nI u) (nI x) post t (nI (c u % 8)) (nI (c u / 8)) (nI (x % 8) - nI (c u % 8)) (nI (x / 8) - nI (c u / 8)) (nI (dsN (c u) x)) (if f = true then 1 else 0) g := fun t ht f hp => by
      unfold J_X7_looksAt_143
      have ft : ∀ b : Bool, (narrow .boolean (.int (if b = true then 1 else 0)) = .int (if b = true then 1 else 0)) := fun b => by cases b <;> rfl
      refine lp_for (dsN (c u) x - 1) (fun k z => ∃ b : Bool, z = (t, nI (c u % 8), nI (c u / 8), nI (x % 8) - nI (c u % 8), nI (x / 8) - nI (c u / 8), nI (dsN (c u) x), (if b = true then 1 else 0), nI (k + 1), g) ∧ (b = true ↔ f = true ∧ ∀ j, j < k + 1 → 0 < j → opN sd (c u) x j = true)) ?_ ?_ ⟨f, rfl, fun z => ⟨z, fun j h1 h2 => absurd h1 (by omega)⟩, fun z => z.1⟩
      · rintro K k _ hk ⟨b, rfl, hb⟩ hK
        show J_X7_looksAt_148 (nI u) (nI x) post K t _ _ _ _ (nI (dsN (c u) x)) _ (nI (k + 1)) g
        have hk1 : k + 1 < dsN (c u) x := by omega
        unfold J_X7_looksAt_148 J_X7_looksAt_216 J_X7_looksAt_212 J_X7_looksAt_217
        refine pk_le (dsN (c u) x) (k + 1) (fun z => absurd z (by omega)) (fun _ => ?_)
        cases hbb : b with
        | false =>
          subst hbb
          refine wp_t rfl ⟨ft false, ?_⟩
          rw [if_neg (fun z => by have := hb.mpr ⟨z.1, fun j h1 h2 => z.2 j (by omega) h2⟩; cases this)] at hp
          exact hp
        | true =>
          subst hbb
          have hb := hb.mp rfl
          refine wp_f (show ¬ (1 : Int32) = 0 by decide) (r_part (by omega) h8 (r_part (by omega) h8 ?_))
          rw [bt_ref hl hx hk1 (by omega)]
          have hbt := btN_lt hl hx hk1
          refine r_ground hbt ?_
          rw [hsd]
          have hlt := gN_lt sd (btN (c u) x (k + 1))
          have no : opN sd (c u) x (k + 1) = false → K (t, nI (c u % 8), nI (c u / 8), nI (x % 8) - nI (c u % 8), nI (x / 8) - nI (c u / 8), nI (dsN (c u) x), 0, nI (k + 1) + 1, g) := fun hf => hK _ ⟨false, by rw [nI_up]; rfl, fun z => absurd z (by decide), fun z => by have := z.2 (k + 1) (by omega) (by omega); rw [hf] at this; cases this⟩
          have yes : opN sd (c u) x (k + 1) = true → K (t, nI (c u % 8), nI (c u / 8), nI (x % 8) - nI (c u % 8), nI (x / 8) - nI (c u / 8), nI (dsN (c u) x), 1, nI (k + 1) + 1, g) := fun hf => hK _ ⟨true, by rw [nI_up]; rfl, fun _ => ⟨hb.1, fun j h1 h2 => by
            by_cases e : j = k + 1
            · rw [e]; exact hf
            · exact hb.2 j (by omega) h2⟩, fun _ => rfl⟩
          refine pk_eq (gN sd (btN (c u) x (k + 1))) 104 (fun e => no ?_) (fun e => And.symm (pk_eq (gN sd (btN (c u) x (k + 1))) 119 (fun e2 => ?_) (fun e2 => yes ?_)))
          · unfold opN; simp [e]
          · by_cases eh : gN sd (c u) = 104
            · refine wp_f (fun z => (ht.mp z) eh) (yes ?_)
              unfold opN; simp [e, eh]
            · refine wp_t (ht.mpr eh) (no ?_)
              unfold opN; simp [e2, eh]
          · unfold opN; simp [e, e2]
      · rintro K _ ⟨b, rfl, hb⟩
        show J_X7_looksAt_148 (nI u) (nI x) post K t _ _ _ _ (nI (dsN (c u) x)) _ (nI (dsN (c u) x - 1 + 1)) g
        unfold J_X7_looksAt_148
        refine pk_le (dsN (c u) x) (dsN (c u) x - 1 + 1) (fun _ => ⟨ft b, ?_⟩) (fun z => absurd z (by omega))
        have e : (b = true) ↔ (f = true ∧ ∀ j, j < dsN (c u) x → 0 < j → opN sd (c u) x j = true) := hb.trans (and_congr_right (fun _ => ⟨fun z j h1 h2 => z j (by omega) h2, fun z j h1 h2 => z j (by omega) h2⟩))
        simp only [e]
        exact hp
    -- the distance against the sight
    have near : ∀ (t : Int32) (tn : Nat), t = nI tn → tn = (if gN sd (c u) = 104 then 1 else 0) → ∀ s9 : Nat, s9 = sgN (kk u) → J_X7_looksAt_73 (nI u) (nI x) post (nI u) (nI x) t t (nI s9) g := fun t tn et etn s9 es => by
      unfold J_X7_looksAt_73
      refine ⟨iu, iu, ?_⟩
      rw [nI_clamp (by omega), hc u hu, iI_in hl, xN hx, xN hl, yN hx, yN hl]
      have e1 : (if (0 : Int32) ≤ nI (x % 8) - nI (c u % 8) then nI (x % 8) - nI (c u % 8) else 0 - (nI (x % 8) - nI (c u % 8))) = nI (dfN (c u % 8) (x % 8)) := ab_ok (c u % 8) (Nat.mod_lt _ (by decide)) (x % 8) (Nat.mod_lt _ (by decide))
      have e2 : (if (0 : Int32) ≤ nI (x / 8) - nI (c u / 8) then nI (x / 8) - nI (c u / 8) else 0 - (nI (x / 8) - nI (c u / 8))) = nI (dfN (c u / 8) (x / 8)) := ab_ok (c u / 8) (by omega) (x / 8) (by omega)
      rw [e1, e2, mx_eq (dfN_lt (Nat.mod_lt _ (by decide)) (Nat.mod_lt _ (by decide))) (dfN_lt (by omega) (by omega))]
      have ht : t = 0 ↔ ¬ gN sd (c u) = 104 := by
        rw [et, etn]
        by_cases e : gN sd (c u) = 104
        · rw [if_pos e]; exact ⟨fun z => absurd z (by decide), fun z => absurd e z⟩
        · rw [if_neg e]; exact ⟨fun _ => e, fun _ => rfl⟩
      have hds : max (dfN (c u % 8) (x % 8)) (dfN (c u / 8) (x / 8)) = dsN (c u) x := rfl
      rw [hds, et, nI_add]
      have htn : tn ≤ 1 := by rw [etn]; split <;> omega
      have hs9 : s9 ≤ 4 := by rw [es]; unfold sgN; split <;> omega
      refine pk_lt (s9 + tn) (dsN (c u) x) (fun z => ?_) (fun z => ?_)
      · refine line _ (by rw [← et]; exact ht) false ?_
        rw [if_neg (fun y => absurd y.1 (by decide))]
        rw [if_neg (fun y => by
          have := y.2
          unfold seeN at this
          rw [Bool.and_eq_true] at this
          have := of_decide_eq_true this.1
          omega)] at h
        exact h
      · refine line _ (by rw [← et]; exact ht) true ?_
        have e : (c u < 64 ∧ seeN sd (kk u) (c u) x = true) ↔ ∀ j, j < dsN (c u) x → 0 < j → opN sd (c u) x j = true := by
          unfold seeN
          rw [Bool.and_eq_true, decide_eq_true_eq, decide_eq_true_eq]
          exact ⟨fun y => y.2.2, fun y => ⟨hl, by omega, y⟩⟩
        by_cases hq : ∀ j, j < dsN (c u) x → 0 < j → opN sd (c u) x j = true
        · rw [if_pos ⟨rfl, hq⟩]
          rw [if_pos (e.mpr hq)] at h
          exact h
        · rw [if_neg (fun y => hq y.2)]
          rw [if_neg (fun y => hq (e.mp y))] at h
          exact h
    have kind : ∀ (t : Int32) (tn : Nat), t = nI tn → tn = (if gN sd (c u) = 104 then 1 else 0) → J_X7_looksAt_32 (nI u) (nI x) post (nI u) (nI x) t g := fun t tn et etn => by
      have nr : ∀ s9 : Nat, s9 = sgN (kk u) → J_X7_looksAt_64 (nI u) (nI x) post (nI u) (nI x) t (nI s9) g := fun s9 es => by
        unfold J_X7_looksAt_64
        refine ⟨fun z => ?_, fun z => ?_⟩
        · have := near t tn et etn s9 es
          rw [z] at this ⊢
          exact this
        · have : t = 1 := by
            rw [et] at z ⊢
            have : tn ≤ 1 := by rw [etn]; split <;> omega
            have : tn ≠ 0 := fun e => z (by rw [e]; rfl)
            have : tn = 1 := by omega
            rw [this]; rfl
          have h9 := near t tn et etn s9 es
          rw [this] at h9 ⊢
          exact h9
      unfold J_X7_looksAt_32
      rw [nI_clamp (by omega), o3]
      refine ⟨iu, ?_⟩
      generalize hk : kk u = k at o4 nr
      match k, o4, nr with
      | 0, _, nr => exact wp_t2 rfl (nr 3 rfl)
      | 1, _, nr => exact wp_f2 (by decide) ⟨iu, wp_t2 rfl (nr 2 rfl)⟩
      | 2, _, nr => exact wp_f2 (by decide) ⟨iu, wp_f2 (by decide) (nr 4 rfl)⟩
      | k + 3, z, _ => exact absurd z (by omega)
    refine And.symm (pk_eq (gN sd (c u)) 104 (fun e => kind 1 1 rfl (by rw [if_pos e])) (fun e => kind 0 0 rfl (by rw [if_neg e])) rfl rfl (Nat.lt_trans (gN_lt _ _) (by decide)))
  · rw [iI_out (by omega)]
    rw [if_neg (fun z => hl z.1)] at h
    exact wp_t2 rfl h
end LK
