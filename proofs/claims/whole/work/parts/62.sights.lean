/-! PART 62: who sights whom at the end of a turn -/
/-- whether the player p sights the unit u by itself -/
def sgtN (n : Nat) (sd : Int32) (ow kk c : Nat → Nat) (p u : Nat) : Bool := decide (c u < 64) && (decide (ow u ≠ p) && wchN n sd ow kk c p (c u))
def numN (t : Nat) (c : Nat → Nat) (u : Nat) : Nat := 100000 * t + 1000 * c u + u
/-- the sightings of the units below k that S names are added -/
def wtF (S : Nat → Bool) (num : Nat → Nat) : Nat → Nat × (Nat → Nat) → Nat × (Nat → Nat)
  | 0, J => J
  | k + 1, J => if S k then addsN (wtF S num k J).1 (wtF S num k J).2 (num k) else wtF S num k J
/-- those of the players below q with a treaty -/
def hrF (T : Nat → Bool) (S : Nat → Nat → Bool) (num : Nat → Nat) (n : Nat) : Nat → Nat × (Nat → Nat) → Nat × (Nat → Nat)
  | 0, J => J
  | q + 1, J => if T q then wtF (S q) num n (hrF T S num n q J) else hrF T S num n q J
theorem wtF_all {P : Nat → Prop} {S : Nat → Bool} {num : Nat → Nat} : ∀ {k : Nat} {J : Nat × (Nat → Nat)}, J.1 ≤ 60 → (∀ i, i < J.1 → P (J.2 i)) → (∀ i, i < k → S i = true → P (num i)) → (wtF S num k J).1 ≤ 60 ∧ ∀ i, i < (wtF S num k J).1 → P ((wtF S num k J).2 i) := by
  intro k
  induction k with
  | zero => intro J h1 h2 _; exact ⟨h1, h2⟩
  | succ k ih =>
    intro J h1 h2 h3
    obtain ⟨a1, a2⟩ := ih h1 h2 (fun i hi hs => h3 i (by omega) hs)
    unfold wtF
    cases hs : S k with
    | false => rw [if_neg (by decide)]; exact ⟨a1, a2⟩
    | true => rw [if_pos rfl]; exact ⟨addsN_le a1, addsN_all a1 a2 (h3 k (by omega) hs)⟩
theorem wtF_srt {S : Nat → Bool} {num : Nat → Nat} : ∀ {k : Nat} {J : Nat × (Nat → Nat)}, J.1 ≤ 60 → srt J.1 J.2 → (wtF S num k J).1 ≤ 60 ∧ srt (wtF S num k J).1 (wtF S num k J).2 := by
  intro k
  induction k with
  | zero => intro J h1 h2; exact ⟨h1, h2⟩
  | succ k ih =>
    intro J h1 h2
    obtain ⟨a1, a2⟩ := ih h1 h2
    unfold wtF
    cases hs : S k with
    | false => rw [if_neg (by decide)]; exact ⟨a1, a2⟩
    | true => rw [if_pos rfl]; exact ⟨addsN_le a1, addsN_srt a1 a2⟩
theorem hrF_all {P : Nat → Prop} {T : Nat → Bool} {S : Nat → Nat → Bool} {num : Nat → Nat} {n : Nat} : ∀ {q : Nat} {J : Nat × (Nat → Nat)}, J.1 ≤ 60 → (∀ i, i < J.1 → P (J.2 i)) → (∀ j, j < q → ∀ i, i < n → S j i = true → P (num i)) → (hrF T S num n q J).1 ≤ 60 ∧ ∀ i, i < (hrF T S num n q J).1 → P ((hrF T S num n q J).2 i) := by
  intro q
  induction q with
  | zero => intro J h1 h2 _; exact ⟨h1, h2⟩
  | succ q ih =>
    intro J h1 h2 h3
    obtain ⟨a1, a2⟩ := ih h1 h2 (fun j hj => h3 j (by omega))
    unfold hrF
    cases hs : T q with
    | false => rw [if_neg (by decide)]; exact ⟨a1, a2⟩
    | true => rw [if_pos rfl]; exact wtF_all a1 a2 (h3 q (by omega))
theorem hrF_srt {T : Nat → Bool} {S : Nat → Nat → Bool} {num : Nat → Nat} {n : Nat} : ∀ {q : Nat} {J : Nat × (Nat → Nat)}, J.1 ≤ 60 → srt J.1 J.2 → (hrF T S num n q J).1 ≤ 60 ∧ srt (hrF T S num n q J).1 (hrF T S num n q J).2 := by
  intro q
  induction q with
  | zero => intro J h1 h2; exact ⟨h1, h2⟩
  | succ q ih =>
    intro J h1 h2
    obtain ⟨a1, a2⟩ := ih h1 h2
    unfold hrF
    cases hs : T q with
    | false => rw [if_neg (by decide)]; exact ⟨a1, a2⟩
    | true => rw [if_pos rfl]; exact wtF_srt a1 a2
theorem sgtN_lt {n : Nat} {sd : Int32} {ow kk c : Nat → Nat} {p u : Nat} (h : sgtN n sd ow kk c p u = true) : c u < 64 ∧ ow u ≠ p := by
  unfold sgtN at h
  rw [Bool.and_eq_true, Bool.and_eq_true] at h
  exact ⟨of_decide_eq_true h.1, of_decide_eq_true h.2.1⟩
theorem numN_bd {t : Nat} {c : Nat → Nat} {u : Nat} (ht : t < 99 + 1) (hc : c u < 64) (hu : u < 24) : numN t c u < 10000000 := by unfold numN; omega
theorem numN_ky {t : Nat} {c : Nat → Nat} {u : Nat} (hc : c u < 64) (hu : u < 24) : kyN (numN t c u) = t * 1000 + u := by unfold numN kyN; omega
section SG
variable {n t : Nat} {sd : Int32} {ow kk c : Nat → Nat} {g g' : St}
theorem r_isSighted {p u : Nat} {post : Int32 → St → Prop} (hs : MUs sd n ow kk g) (hc : MUc n c g) (hC : ∀ u, u < n → c u ≤ 64) (hp : p < 4) (hu : u < n)
    (h : post (if sgtN n sd ow kk c p u = true then 1 else 0) g) : V_X7_isSighted (nI p) (nI u) g post := by
  have h24 := hs.2.2.1
  obtain ⟨o1, o2, -, -⟩ := hs.2.2.2 u hu
  have iu : vp_in (nI u) 24 := vp_in_nI (by omega) (by decide)
  unfold V_X7_isSighted
  rw [nI_clamp (by omega), hc u hu, o1]
  refine ⟨iu, ?_⟩
  by_cases hl : c u < 64
  · refine wp_f (by rw [iI_in hl]; exact nI_m1 (by omega)) ⟨iu, pk_eq (ow u) p (fun e => ?_) (fun e => ⟨iu, ?_⟩)⟩
    · rw [if_neg (fun z => (sgtN_lt z).2 e)] at h; exact h
    · rw [iI_in hl]
      refine r_watches hs hc hC hp hl ?_
      have es : sgtN n sd ow kk c p u = wchN n sd ow kk c p (c u) := by
        unfold sgtN
        rw [decide_eq_true hl, decide_eq_true e, Bool.true_and, Bool.true_and]
      rw [es] at h
      cases hw : wchN n sd ow kk c p (c u) with
      | false => rw [hw] at h; exact wp_t rfl h
      | true => rw [hw] at h; exact wp_f (by decide) h
  · rw [if_neg (fun z => hl (sgtN_lt z).1)] at h
    exact wp_t (iI_out (by omega)) h
theorem r_numberOf {u : Nat} {post : Int32 → St → Prop} (ht : g.2 3 = nI t) (h24 : n ≤ 24) (hc : MUc n c g) (hu : u < n) (hl : c u < 64) (h : post (nI (numN t c u)) g) : V_X7_numberOf (nI u) g post := by
  unfold V_X7_numberOf
  rw [nI_clamp (by omega), hc u hu, iI_in hl, ht, i_num]
  exact ⟨vp_in_nI (by omega) (by decide), h⟩
end SG
def CXI (J : Nat → Nat × (Nat → Nat)) (g : St) : Prop := ∀ p : Nat, p < 4 → CI p (J p).1 (J p).2 g
def MXI (J : Nat → Nat × (Nat → Nat)) (g : St) : Prop := ∀ p : Nat, p < 4 → MI p (J p).1 (J p).2 g
/-- the treaties -/
def MT (tr : Nat → Nat → Bool) (g : St) : Prop := ∀ p q, p < 4 → q < 4 → g.1 8 (4 * p + q) = nI (bN (tr p q))
def CT (tr : Nat → Nat → Bool) (g : St) : Prop := ∀ p : Nat, p < 4 → ∀ i : Nat, i < 32 → bt (g.1 26 p) i = (decide (i < 4) && tr p i)
/-- the indexes when all have watched, and when all have heard -/
def sg1 (n : Nat) (sd : Int32) (ow kk c : Nat → Nat) (t : Nat) (J : Nat → Nat × (Nat → Nat)) (p : Nat) : Nat × (Nat → Nat) := wtF (sgtN n sd ow kk c p) (numN t c) n (J p)
def hrS (n : Nat) (sd : Int32) (ow kk c : Nat → Nat) (p q u : Nat) : Bool := decide (ow u ≠ p) && sgtN n sd ow kk c q u
def sg2 (n : Nat) (sd : Int32) (ow kk c : Nat → Nat) (t : Nat) (tr : Nat → Nat → Bool) (J : Nat → Nat × (Nat → Nat)) (p : Nat) : Nat × (Nat → Nat) := hrF (tr p) (hrS n sd ow kk c p) (numN t c) n 4 (sg1 n sd ow kk c t J p)
theorem sg1_all {P : Nat → Prop} {n t : Nat} {sd : Int32} {ow kk c : Nat → Nat} {J : Nat → Nat × (Nat → Nat)} {p : Nat} (h1 : (J p).1 ≤ 60) (h2 : ∀ i, i < (J p).1 → P ((J p).2 i)) (h3 : ∀ u, u < n → c u < 64 → ow u ≠ p → P (numN t c u)) : (sg1 n sd ow kk c t J p).1 ≤ 60 ∧ ∀ i, i < (sg1 n sd ow kk c t J p).1 → P ((sg1 n sd ow kk c t J p).2 i) :=
  wtF_all h1 h2 (fun i hi hs => h3 i hi (sgtN_lt hs).1 (sgtN_lt hs).2)
theorem hrS_lt {n : Nat} {sd : Int32} {ow kk c : Nat → Nat} {p q u : Nat} (h : hrS n sd ow kk c p q u = true) : c u < 64 ∧ ow u ≠ p := by
  unfold hrS at h
  rw [Bool.and_eq_true] at h
  exact ⟨(sgtN_lt h.2).1, of_decide_eq_true h.1⟩
theorem sg2_all {P : Nat → Prop} {n t : Nat} {sd : Int32} {ow kk c : Nat → Nat} {tr : Nat → Nat → Bool} {J : Nat → Nat × (Nat → Nat)} {p : Nat} (h1 : (J p).1 ≤ 60) (h2 : ∀ i, i < (J p).1 → P ((J p).2 i)) (h3 : ∀ u, u < n → c u < 64 → ow u ≠ p → P (numN t c u)) : (sg2 n sd ow kk c t tr J p).1 ≤ 60 ∧ ∀ i, i < (sg2 n sd ow kk c t tr J p).1 → P ((sg2 n sd ow kk c t tr J p).2 i) := by
  obtain ⟨a1, a2⟩ := sg1_all (sd := sd) (kk := kk) h1 h2 h3
  exact hrF_all a1 a2 (fun j _ i hi hs => h3 i hi (hrS_lt hs).1 (hrS_lt hs).2)
theorem sg2_srt {n t : Nat} {sd : Int32} {ow kk c : Nat → Nat} {tr : Nat → Nat → Bool} {J : Nat → Nat × (Nat → Nat)} {p : Nat} (h1 : (J p).1 ≤ 60) (h2 : srt (J p).1 (J p).2) : srt (sg2 n sd ow kk c t tr J p).1 (sg2 n sd ow kk c t tr J p).2 := by
  obtain ⟨a1, a2⟩ := wtF_srt (S := sgtN n sd ow kk c p) (num := numN t c) (k := n) h1 h2
  exact (hrF_srt a1 a2).2
section SG2
variable {n t : Nat} {sd : Int32} {ow kk c : Nat → Nat} {tr : Nat → Nat → Bool} {J : Nat → Nat × (Nat → Nat)} {g g' : St}
theorem MXI_kx {p : Nat} {J' : Nat → Nat × (Nat → Nat)} (h : MXI J g) (hb : ∀ p : Nat, p < 4 → (J p).1 ≤ 60) (hk : kx p g g') (hp : MI p (J' p).1 (J' p).2 g') (he : ∀ q : Nat, q < 4 → q ≠ p → J' q = J q) : MXI J' g' := fun q hq => by
  by_cases e : q = p
  · rw [e]; exact hp
  · rw [he q hq e]
    exact MI_kx (h q hq) hk e (hb q hq)
/-- one player adds what its own units, or another one's, sight -/
theorem r_sgRow {p : Nat} {S : Nat → Bool} {F : (Nat → St → Prop) → Nat → St → Prop} {J0 : Nat × (Nat → Nat)} (ht : t < 100) (h24 : n ≤ 24) (hS : ∀ u, u < n → S u = true → c u < 64) (hb : Ibd J0.1 J0.2)
    : ∀ k, k ≤ n → Ibd (wtF S (numN t c) k J0).1 (wtF S (numN t c) k J0).2 := fun k hk => by
  have := wtF_all (P := fun x => x < 10000000) (S := S) (num := numN t c) (k := k) hb.1 hb.2 (fun i hi hs => numN_bd (by omega) (hS i (by omega) hs) (by omega))
  exact this
end SG2
