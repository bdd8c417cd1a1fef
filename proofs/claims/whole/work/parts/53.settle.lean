/-! PART 53: cells that several units want -/
def cntd (n : Nat) (wt : Nat → Nat) : Nat := fN (fun x => decide (1 < fb_ct (fun u => decide (wt u = x)) n)) 64
def powN (n : Nat) (ow kk wt : Nat → Nat) (x p : Nat) : Nat := fb_sm (fun u => if wt u = x ∧ ow u = p then pwN (kk u) else 0) n
/-- the one of four that is more than each other, and more than 0; 4 if there is none -/
def strN (P : Nat → Nat) : Nat := fN (fun p => decide (0 < P p) && decide (∀ q : Nat, q < 4 → q = p ∨ P q < P p)) 4
def stdN (n : Nat) (c wt : Nat → Nat) (x : Nat) : Nat := fN (fun u => decide (c u = x ∧ wt u = x)) n
section SV
variable (n : Nat) (ow kk c wt : Nat → Nat) (x : Nat)
abbrev beaten : Prop := stdN n c wt x < n ∧ strN (powN n ow kk wt x) < 4 ∧ strN (powN n ow kk wt x) ≠ ow (stdN n c wt x)
def goesN : Nat := if stdN n c wt x < n then n else fN (fun u => decide (wt u = x ∧ ow u = strN (powN n ow kk wt x))) n
def slC : Nat → Nat := if beaten n ow kk c wt x then updN c (stdN n c wt x) 64 else c
def slW : Nat → Nat := if beaten n ow kk c wt x then updN wt (stdN n c wt x) 64 else fun u => if wt u = x ∧ u ≠ goesN n ow kk c wt x then c u else wt u
end SV
def stl (n : Nat) (ow kk : Nat → Nat) : Nat → (Nat → Nat) × (Nat → Nat) → (Nat → Nat) × (Nat → Nat)
  | 0, S => S
  | k + 1, S => if cntd n S.2 = 64 then S else stl n ow kk k (slC n ow kk S.1 S.2 (cntd n S.2), slW n ow kk S.1 S.2 (cntd n S.2))
def livN (n : Nat) (c : Nat → Nat) : Nat := fb_ct (fun u => decide (c u < 64)) n
def ms (n : Nat) (c wt : Nat → Nat) : Nat := livN n c + fb_ct (fun u => decide (wt u ≠ c u)) n
theorem ct_two {p : Nat → Bool} {n : Nat} (h : 1 < fb_ct p n) : ∃ a b, a ≠ b ∧ a < n ∧ b < n ∧ p a = true ∧ p b = true := by
  obtain ⟨i, hi, h1, h2⟩ := fb_ct_kth (p := p) (k := 0) (n := n) (by omega)
  obtain ⟨j, hj, h3, h4⟩ := fb_ct_kth (p := p) (k := 1) (n := n) h
  exact ⟨i, j, fun e => by rw [e] at h2; omega, hi, hj, h1, h3⟩
theorem ct_less {p q : Nat → Bool} {n i : Nat} (hi : i < n) (h1 : ∀ k, k < n → p k = true → q k = true) (h2 : q i = true) (h3 : p i = false) : fb_ct p n < fb_ct q n := by
  have e1 : fb_ct p n ≤ fb_ct (fun k => if k = i then false else q k) n := fb_ct_sub (fun k hk hp => by
    show (if k = i then false else q k) = true
    by_cases e : k = i
    · rw [e, h3] at hp; cases hp
    · rw [if_neg e]; exact h1 k hk hp)
  have e2 := fb_ct_upd q false hi
  rw [h2, if_pos rfl, if_neg (by decide)] at e2
  omega
theorem cntd_in {n : Nat} {wt : Nat → Nat} (h : cntd n wt ≠ 64) : cntd n wt < 64 ∧ 1 < fb_ct (fun u => decide (wt u = cntd n wt)) n := by
  have h1 : cntd n wt < 64 := by have := fN_le (fun x => decide (1 < fb_ct (fun u => decide (wt u = x)) n)) 64; unfold cntd at *; omega
  exact ⟨h1, of_decide_eq_true (fN_lt h1).1⟩
theorem slv_ok {n : Nat} {ow kk c wt : Nat → Nat} {x : Nat} (hS : SI n c wt) (hx : x < 64) (h2 : 1 < fb_ct (fun u => decide (wt u = x)) n) :
    SI n (slC n ow kk c wt x) (slW n ow kk c wt x) ∧ ms n (slC n ow kk c wt x) (slW n ow kk c wt x) < ms n c wt ∧ livN n (slC n ow kk c wt x) + (if beaten n ow kk c wt x then 1 else 0) = livN n c := by
  by_cases hb : beaten n ow kk c wt x
  · have es : c (stdN n c wt x) = x ∧ wt (stdN n c wt x) = x := of_decide_eq_true (fN_lt hb.1).1
    have hs := hb.1
    unfold slC slW
    rw [if_pos hb, if_pos hb, if_pos hb]
    generalize stdN n c wt x = s at es hs
    have l1 : livN n (updN c s 64) + 1 = livN n c := by
      unfold livN
      have e : (fun u => decide (updN c s 64 u < 64)) = fun k => if k = s then false else decide (c k < 64) := by
        funext u
        by_cases e : u = s
        · subst e; simp [updN]
        · simp [updN, e]
      rw [e]
      have e2 := fb_ct_upd (fun k => decide (c k < 64)) false hs
      have e3 : decide (c s < 64) = true := decide_eq_true (by omega)
      simp only [e3, if_true] at e2
      simpa using e2
    refine ⟨⟨fun u hu => ?_, fun u v hu hv h1 h3 => ?_⟩, ?_, l1⟩
    · by_cases e : u = s
      · subst e; simp [updN]
      · simp only [updN, if_neg e]; exact hS.1 u hu
    · by_cases e : u = s
      · subst e; simp [updN] at h1
      · by_cases e2 : v = s
        · subst e2; simp [updN, e] at h1 h3; omega
        · simp only [updN, if_neg e, if_neg e2] at h1 h3; exact hS.2 u v hu hv h1 h3
    · unfold ms
      have e : fb_ct (fun u => decide (updN wt s 64 u ≠ updN c s 64 u)) n = fb_ct (fun u => decide (wt u ≠ c u)) n := fb_ct_cong (fun u _ => by
        by_cases e : u = s
        · subst e; simp [updN, es.1, es.2]
        · simp [updN, e])
      omega
  · obtain ⟨a, b, hab, ha, hbn, pa, pb⟩ := ct_two h2
    have pa : wt a = x := of_decide_eq_true pa
    have pb : wt b = x := of_decide_eq_true pb
    have key : ∃ u, u < n ∧ wt u = x ∧ u ≠ goesN n ow kk c wt x ∧ c u ≠ x := by
      by_cases hs : stdN n c wt x < n
      · have hg : goesN n ow kk c wt x = n := if_pos hs
        rw [hg]
        by_cases ca : c a = x
        · refine ⟨b, hbn, pb, by omega, fun cb => hab (hS.2 a b ha hbn (by omega) (by omega))⟩
        · exact ⟨a, ha, pa, by omega, ca⟩
      · have no : ∀ u, u < n → wt u = x → c u ≠ x := fun u hu hw hc => by
          have := fN_no hs hu
          exact (of_decide_eq_false this) ⟨hc, hw⟩
        by_cases ga : a = goesN n ow kk c wt x
        · exact ⟨b, hbn, pb, fun e => hab (ga.trans e.symm), no b hbn pb⟩
        · exact ⟨a, ha, pa, ga, no a ha pa⟩
    obtain ⟨u0, hu0, w0, g0, c0⟩ := key
    unfold slC slW
    rw [if_neg hb, if_neg hb, if_neg hb]
    refine ⟨⟨fun u hu => ?_, hS.2⟩, ?_, rfl⟩
    · obtain ⟨p1, p2, p3⟩ := hS.1 u hu
      by_cases e : wt u = x ∧ u ≠ goesN n ow kk c wt x
      · have ew : (if wt u = x ∧ u ≠ goesN n ow kk c wt x then c u else wt u) = c u := if_pos e
        dsimp only
        rw [ew]; exact ⟨p1, p1, Iff.rfl⟩
      · have ew : (if wt u = x ∧ u ≠ goesN n ow kk c wt x then c u else wt u) = wt u := if_neg e
        dsimp only
        rw [ew]; exact ⟨p1, p2, p3⟩
    · unfold ms
      have := ct_less (p := fun u => decide ((if wt u = x ∧ u ≠ goesN n ow kk c wt x then c u else wt u) ≠ c u)) (q := fun u => decide (wt u ≠ c u)) (n := n) hu0 (fun k _ hk => by
        have hk := of_decide_eq_true hk
        apply decide_eq_true
        by_cases e : wt k = x ∧ k ≠ goesN n ow kk c wt x
        · rw [if_pos e] at hk; exact absurd rfl hk
        · rw [if_neg e] at hk; exact hk) (decide_eq_true (by rw [w0]; exact fun e => c0 e.symm)) (decide_eq_false (by rw [if_pos ⟨w0, g0⟩]; exact fun e => e rfl))
      show livN n c + fb_ct (fun u => decide ((if wt u = x ∧ u ≠ goesN n ow kk c wt x then c u else wt u) ≠ c u)) n < livN n c + fb_ct (fun u => decide (wt u ≠ c u)) n
      omega
theorem stl_ok {n : Nat} {ow kk : Nat → Nat} : ∀ (k : Nat) (S : (Nat → Nat) × (Nat → Nat)), SI n S.1 S.2 → ms n S.1 S.2 ≤ k → SI n (stl n ow kk k S).1 (stl n ow kk k S).2 ∧ cntd n (stl n ow kk k S).2 = 64 := by
  intro k
  induction k with
  | zero =>
    intro S hS hm
    refine ⟨hS, ?_⟩
    by_cases h : cntd n S.2 = 64
    · exact h
    · obtain ⟨h1, h2⟩ := cntd_in h
      have := (slv_ok (ow := ow) (kk := kk) hS h1 h2).2.1
      omega
  | succ k ih =>
    intro S hS hm
    unfold stl
    by_cases h : cntd n S.2 = 64
    · rw [if_pos h]; exact ⟨hS, h⟩
    · rw [if_neg h]
      obtain ⟨h1, h2⟩ := cntd_in h
      obtain ⟨a1, a2, _⟩ := slv_ok (ow := ow) (kk := kk) hS h1 h2
      exact ih _ a1 (by dsimp only at *; omega)
/-- where units want to go, and the whole step -/
def wt0 (sd : Int32) (dr c : Nat → Nat) : Nat → Nat := fun u => if c u < 64 then tgN sd (c u) (dr u) else 64
def allK : Nat → Nat → Bool := fun _ _ => true
def stepN (n : Nat) (ow kk : Nat → Nat) (sd : Int32) (dr c : Nat → Nat) : Nat → Nat := (stl n ow kk 48 (pC n ow kk c (wt0 sd dr c) allK, pW n ow kk c (wt0 sd dr c) allK)).2
/-- cells that can be: at most 64, and no two units on one -/
def Cok (n : Nat) (c : Nat → Nat) : Prop := (∀ u, u < n → c u ≤ 64) ∧ (∀ u v, u < n → v < n → c u < 64 → c u = c v → u = v)
theorem tgN_lt {sd : Int32} {c d : Nat} (h : c < 64) : tgN sd c d < 64 := by
  unfold tgN
  split
  · rename_i e; exact e.2.1
  · exact h
theorem SI_0 {n : Nat} {sd : Int32} {dr c : Nat → Nat} (h : Cok n c) : SI n c (wt0 sd dr c) := by
  refine ⟨fun u hu => ⟨h.1 u hu, ?_⟩, h.2⟩
  unfold wt0
  have h1 := h.1 u hu
  by_cases e : c u < 64
  · rw [if_pos e]
    have := tgN_lt (sd := sd) (d := dr u) e
    omega
  · rw [if_neg e]; omega
theorem ms_48 {n : Nat} {c wt : Nat → Nat} (h : n ≤ 24) : ms n c wt ≤ 48 := by
  unfold ms livN
  have h1 := fb_ct_le (fun u => decide (c u < 64)) n
  have h2 := fb_ct_le (fun u => decide (wt u ≠ c u)) n
  omega
theorem cntd_Cok {n : Nat} {c wt : Nat → Nat} (hS : SI n c wt) (h : cntd n wt = 64) : Cok n wt := by
  refine ⟨fun u hu => (hS.1 u hu).2.1, fun u v hu hv h1 h2 => ?_⟩
  have h3 := fN_no (p := fun x => decide (1 < fb_ct (fun u => decide (wt u = x)) n)) (n := 64) (by unfold cntd at h; omega) h1
  have h3 := of_decide_eq_false h3
  by_cases e : u = v
  · exact e
  · exfalso
    have p1 : decide (wt u = wt u) = true := by simp
    have p2 : decide (wt v = wt u) = true := by simp [h2]
    have q := fb_ct_upd (fun k => decide (wt k = wt u)) false hu
    rw [if_pos p1, if_neg (by decide)] at q
    have q2 : 0 < fb_ct (fun k => if k = u then false else decide (wt k = wt u)) n := fb_ct_pos.mpr ⟨v, hv, by rw [if_neg (fun e2 => e e2.symm)]; exact p2⟩
    omega
theorem stepN_ok {n : Nat} {ow kk : Nat → Nat} {sd : Int32} {dr c : Nat → Nat} (hn : n ≤ 24) (h : Cok n c) : Cok n (stepN n ow kk sd dr c) := by
  have h1 := stl_ok (ow := ow) (kk := kk) 48 (pC n ow kk c (wt0 sd dr c) allK, pW n ow kk c (wt0 sd dr c) allK) (SI_pair (SI_0 h)) (ms_48 hn)
  exact cntd_Cok h1.1 h1.2
