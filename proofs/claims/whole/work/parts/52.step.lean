/-! PART 52: a step, in numbers: c u is where unit u is (64: lost), wt u is the cell that it wants -/
def pwN (k : Nat) : Nat := match k with | 0 => 1 | 1 => 3 | _ => 2
theorem kPowers_eq {k : Nat} (hk : k < 3) : kPowers k = nI (pwN k) := by
  match k, hk with
  | 0, _ => rfl
  | 1, _ => rfl
  | 2, _ => rfl
  | k + 3, h => exact absurd h (by omega)
theorem pwN_le (k : Nat) : 1 ≤ pwN k ∧ pwN k ≤ 3 := by
  unfold pwN
  split <;> omega
def SI (n : Nat) (c wt : Nat → Nat) : Prop := (∀ u, u < n → c u ≤ 64 ∧ wt u ≤ 64 ∧ (c u = 64 ↔ wt u = 64)) ∧ (∀ u v, u < n → v < n → c u < 64 → c u = c v → u = v)
/-- two units of different players that want each other's cells -/
abbrev fcs (ow c wt : Nat → Nat) (u v : Nat) : Prop := c u < 64 ∧ c v < 64 ∧ c u ≠ c v ∧ wt u = c v ∧ wt v = c u ∧ ow u ≠ ow v
theorem fcs_sym {ow c wt : Nat → Nat} {u v : Nat} (h : fcs ow c wt u v) : fcs ow c wt v u := ⟨h.2.1, h.1, h.2.2.1.symm, h.2.2.2.2.1, h.2.2.2.1, h.2.2.2.2.2.symm⟩
theorem fcs_one {n : Nat} {ow c wt : Nat → Nat} (hS : SI n c wt) {u v v' : Nat} (hv : v < n) (hv' : v' < n) (h : fcs ow c wt u v) (h' : fcs ow c wt u v') : v = v' :=
  hS.2 v v' hv hv' h.2.1 (h.2.2.2.1.symm.trans h'.2.2.2.1)
def ptn (n : Nat) (ow c wt : Nat → Nat) (u : Nat) : Nat := fN (fun v => decide (fcs ow c wt u v)) n
theorem ptn_lt {n : Nat} {ow c wt : Nat → Nat} {u : Nat} (h : ptn n ow c wt u < n) : fcs ow c wt u (ptn n ow c wt u) := of_decide_eq_true (fN_lt h).1
theorem ptn_eq {n : Nat} {ow c wt : Nat → Nat} (hS : SI n c wt) {u v : Nat} (hv : v < n) (h : fcs ow c wt u v) : ptn n ow c wt u = v :=
  fN_one hv (decide_eq_true h) (fun j hj h' => fcs_one hS hj hv (of_decide_eq_true h') h)
section PR
variable (n : Nat) (ow kk c wt : Nat → Nat) (K : Nat → Nat → Bool)
abbrev lstP (u : Nat) : Prop := ptn n ow c wt u < n ∧ K u (ptn n ow c wt u) = true ∧ pwN (kk u) < pwN (kk (ptn n ow c wt u))
abbrev bckP (u : Nat) : Prop := ptn n ow c wt u < n ∧ K u (ptn n ow c wt u) = true ∧ pwN (kk u) = pwN (kk (ptn n ow c wt u))
/-- where the units are, and what they want, when the pairs of K have met -/
def pC (u : Nat) : Nat := if lstP n ow kk c wt K u then 64 else c u
def pW (u : Nat) : Nat := if lstP n ow kk c wt K u then 64 else if bckP n ow kk c wt K u then c u else wt u
end PR
section PR2
variable {n : Nat} {ow kk c wt : Nat → Nat} {K K' : Nat → Nat → Bool}
theorem pC_lt {u : Nat} (h : pC n ow kk c wt K u < 64) : pC n ow kk c wt K u = c u ∧ ¬ lstP n ow kk c wt K u := by
  unfold pC at *
  by_cases hl : lstP n ow kk c wt K u
  · rw [if_pos hl] at h; omega
  · rw [if_neg hl]; exact ⟨rfl, hl⟩
theorem SI_pair (hS : SI n c wt) : SI n (pC n ow kk c wt K) (pW n ow kk c wt K) := by
  refine ⟨fun u hu => ?_, fun u v hu hv h1 h2 => ?_⟩
  · obtain ⟨a, b, d⟩ := hS.1 u hu
    unfold pC pW
    by_cases hl : lstP n ow kk c wt K u
    · rw [if_pos hl, if_pos hl]; exact ⟨Nat.le_refl _, Nat.le_refl _, by simp⟩
    · rw [if_neg hl, if_neg hl]
      by_cases hb : bckP n ow kk c wt K u
      · rw [if_pos hb]; exact ⟨a, a, Iff.rfl⟩
      · rw [if_neg hb]; exact ⟨a, b, d⟩
  · have e1 := (pC_lt h1).1
    have e2 := (pC_lt (h2 ▸ h1)).1
    rw [e1, e2] at h2
    rw [e1] at h1
    exact hS.2 u v hu hv h1 h2
/-- who faces whom when the pairs of K have met: those that did so before, without K -/
theorem fcs_pair (hS : SI n c wt) {u v : Nat} (hu : u < n) (hv : v < n) (hK : K u v = K v u) : fcs ow (pC n ow kk c wt K) (pW n ow kk c wt K) u v ↔ fcs ow c wt u v ∧ K u v = false := by
  constructor
  · rintro ⟨h1, h2, h3, h4, h5, h6⟩
    obtain ⟨e1, l1⟩ := pC_lt h1
    obtain ⟨e2, l2⟩ := pC_lt h2
    rw [e1] at h1 h3 h5
    rw [e2] at h2 h3 h4
    have w1 : pW n ow kk c wt K u = if bckP n ow kk c wt K u then c u else wt u := if_neg l1
    have w2 : pW n ow kk c wt K v = if bckP n ow kk c wt K v then c v else wt v := if_neg l2
    have b1 : ¬ bckP n ow kk c wt K u := fun hb => by rw [if_pos hb] at w1; exact h3 (w1.symm.trans h4)
    have b2 : ¬ bckP n ow kk c wt K v := fun hb => by rw [if_pos hb] at w2; exact h3 (h5.symm.trans w2)
    rw [if_neg b1] at w1
    rw [if_neg b2] at w2
    have hf : fcs ow c wt u v := ⟨h1, h2, h3, w1.symm.trans h4, w2.symm.trans h5, h6⟩
    refine ⟨hf, ?_⟩
    cases hk : K u v with
    | false => rfl
    | true =>
      exfalso
      have p1 := ptn_eq hS hv hf
      have p2 := ptn_eq hS hu (fcs_sym hf)
      rcases Nat.lt_trichotomy (pwN (kk u)) (pwN (kk v)) with h | h | h
      · exact l1 ⟨by rw [p1]; exact hv, by rw [p1]; exact hk, by rw [p1]; exact h⟩
      · exact b1 ⟨by rw [p1]; exact hv, by rw [p1]; exact hk, by rw [p1]; exact h⟩
      · exact l2 ⟨by rw [p2]; exact hu, by rw [p2, ← hK]; exact hk, by rw [p2]; exact h⟩
  · rintro ⟨hf, hk⟩
    have p1 := ptn_eq hS hv hf
    have p2 := ptn_eq hS hu (fcs_sym hf)
    have n1 : ¬ lstP n ow kk c wt K u := fun h => by have h2 := h.2.1; rw [p1, hk] at h2; cases h2
    have n2 : ¬ lstP n ow kk c wt K v := fun h => by have h2 := h.2.1; rw [p2, ← hK, hk] at h2; cases h2
    have m1 : ¬ bckP n ow kk c wt K u := fun h => by have h2 := h.2.1; rw [p1, hk] at h2; cases h2
    have m2 : ¬ bckP n ow kk c wt K v := fun h => by have h2 := h.2.1; rw [p2, ← hK, hk] at h2; cases h2
    have a1 : pC n ow kk c wt K u = c u := if_neg n1
    have a2 : pC n ow kk c wt K v = c v := if_neg n2
    have a3 : pW n ow kk c wt K u = wt u := by unfold pW; rw [if_neg n1, if_neg m1]
    have a4 : pW n ow kk c wt K v = wt v := by unfold pW; rw [if_neg n2, if_neg m2]
    unfold fcs
    rw [a1, a2, a3, a4]
    exact hf
/-- a larger K that differs only where nobody faces: nothing changes -/
theorem pC_same (h : ∀ u v, u < n → v < n → fcs ow c wt u v → K u v = K' u v) {u : Nat} (hu : u < n) : pC n ow kk c wt K u = pC n ow kk c wt K' u ∧ pW n ow kk c wt K u = pW n ow kk c wt K' u := by
  have e1 : lstP n ow kk c wt K u ↔ lstP n ow kk c wt K' u := by
    refine and_congr_right (fun hp => ?_)
    rw [h u _ hu hp (ptn_lt hp)]
  have e2 : bckP n ow kk c wt K u ↔ bckP n ow kk c wt K' u := by
    refine and_congr_right (fun hp => ?_)
    rw [h u _ hu hp (ptn_lt hp)]
  unfold pC pW
  simp only [e1, e2, and_self]
/-- one more pair has met -/
theorem pC_more (hS : SI n c wt) {a b : Nat} (ha : a < n) (hb : b < n) (hf : fcs ow c wt a b) (hk : K a b = false) (hk2 : K b a = false)
    (h : ∀ u v, u < n → v < n → fcs ow c wt u v → K' u v = (K u v || (decide (u = a ∧ v = b) || decide (u = b ∧ v = a)))) {u : Nat} (hu : u < n) :
    pC n ow kk c wt K' u = (if pwN (kk a) = pwN (kk b) then pC n ow kk c wt K u else if u = (if pwN (kk a) < pwN (kk b) then a else b) then 64 else pC n ow kk c wt K u) ∧
    pW n ow kk c wt K' u = (if pwN (kk a) = pwN (kk b) then (if u = a ∨ u = b then pC n ow kk c wt K u else pW n ow kk c wt K u) else if u = (if pwN (kk a) < pwN (kk b) then a else b) then 64 else pW n ow kk c wt K u) := by
  have pa := ptn_eq hS hb hf
  have pb := ptn_eq hS ha (fcs_sym hf)
  have hab : a ≠ b := fun e => hf.2.2.1 (by rw [e])
  by_cases ua : u = a
  · subst ua
    have k' : K' u b = true := by rw [h u b ha hb hf]; simp
    have n1 : ¬ lstP n ow kk c wt K u := fun z => by have h2 := z.2.1; rw [pa, hk] at h2; cases h2
    have m1 : ¬ bckP n ow kk c wt K u := fun z => by have h2 := z.2.1; rw [pa, hk] at h2; cases h2
    have l' : lstP n ow kk c wt K' u ↔ pwN (kk u) < pwN (kk b) := by
      unfold lstP; rw [pa, k']; exact ⟨fun z => z.2.2, fun z => ⟨hb, rfl, z⟩⟩
    have b' : bckP n ow kk c wt K' u ↔ pwN (kk u) = pwN (kk b) := by
      unfold bckP; rw [pa, k']; exact ⟨fun z => z.2.2, fun z => ⟨hb, rfl, z⟩⟩
    unfold pC pW
    rw [if_neg n1, if_neg n1, if_neg m1]
    rcases Nat.lt_trichotomy (pwN (kk u)) (pwN (kk b)) with z | z | z
    · have q1 := l'.mpr z
      have q2 : ¬ pwN (kk u) = pwN (kk b) := by omega
      simp [q1, q2, z]
    · have q1 : ¬ lstP n ow kk c wt K' u := fun y => by have := l'.mp y; omega
      have q3 := b'.mpr z
      have q2 : pwN (kk u) = pwN (kk b) := by omega
      rw [if_neg q1, if_neg q1, if_pos q3, if_pos q2, if_pos q2]; simp
    · have q1 : ¬ lstP n ow kk c wt K' u := fun y => by have := l'.mp y; omega
      have q3 : ¬ bckP n ow kk c wt K' u := fun y => by have := b'.mp y; omega
      have q2 : ¬ pwN (kk u) = pwN (kk b) := by omega
      have q4 : ¬ pwN (kk u) < pwN (kk b) := by omega
      rw [if_neg q1, if_neg q1, if_neg q3, if_neg q2, if_neg q2, if_neg q4]; simp [hab]
  · by_cases ub : u = b
    · subst ub
      have k' : K' u a = true := by rw [h u a hb ha (fcs_sym hf)]; simp
      have n1 : ¬ lstP n ow kk c wt K u := fun z => by have h2 := z.2.1; rw [pb, hk2] at h2; cases h2
      have m1 : ¬ bckP n ow kk c wt K u := fun z => by have h2 := z.2.1; rw [pb, hk2] at h2; cases h2
      have l' : lstP n ow kk c wt K' u ↔ pwN (kk u) < pwN (kk a) := by
        unfold lstP; rw [pb, k']; exact ⟨fun z => z.2.2, fun z => ⟨ha, rfl, z⟩⟩
      have b' : bckP n ow kk c wt K' u ↔ pwN (kk u) = pwN (kk a) := by
        unfold bckP; rw [pb, k']; exact ⟨fun z => z.2.2, fun z => ⟨ha, rfl, z⟩⟩
      unfold pC pW
      rw [if_neg n1, if_neg n1, if_neg m1]
      rcases Nat.lt_trichotomy (pwN (kk u)) (pwN (kk a)) with z | z | z
      · have q1 := l'.mpr z
        have q2 : ¬ pwN (kk a) = pwN (kk u) := by omega
        have q4 : ¬ pwN (kk a) < pwN (kk u) := by omega
        simp [q1, q2, q4]
      · have q1 : ¬ lstP n ow kk c wt K' u := fun y => by have := l'.mp y; omega
        have q3 := b'.mpr z
        have q2 : pwN (kk a) = pwN (kk u) := by omega
        rw [if_neg q1, if_neg q1, if_pos q3, if_pos q2, if_pos q2]; simp
      · have q1 : ¬ lstP n ow kk c wt K' u := fun y => by have := l'.mp y; omega
        have q3 : ¬ bckP n ow kk c wt K' u := fun y => by have := b'.mp y; omega
        have q2 : ¬ pwN (kk a) = pwN (kk u) := by omega
        have q4 : pwN (kk a) < pwN (kk u) := by omega
        rw [if_neg q1, if_neg q1, if_neg q3, if_neg q2, if_neg q2, if_pos q4]; simp [ua]
    · have hsame : ∀ v, v < n → fcs ow c wt u v → K' u v = K u v := fun v hv hfv => by
        rw [h u v hu hv hfv]; simp [ua, ub]
      have e1 : lstP n ow kk c wt K' u ↔ lstP n ow kk c wt K u := and_congr_right (fun hp => by rw [hsame _ hp (ptn_lt hp)])
      have e2 : bckP n ow kk c wt K' u ↔ bckP n ow kk c wt K u := and_congr_right (fun hp => by rw [hsame _ hp (ptn_lt hp)])
      have q : ¬ u = (if pwN (kk a) < pwN (kk b) then a else b) := by split <;> assumption
      have q2 : ¬ (u = a ∨ u = b) := fun z => z.elim ua ub
      unfold pC pW
      simp only [e1, e2, if_neg q, if_neg q2, ite_self, and_self]
end PR2
