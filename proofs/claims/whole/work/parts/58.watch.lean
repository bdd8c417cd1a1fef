/-! PART 58: who sees what -/
/-- whether a unit of the player p sees the cell x -/
def wchN (n : Nat) (sd : Int32) (ow kk c : Nat → Nat) (p x : Nat) : Bool := decide (∃ u, u < n ∧ ow u = p ∧ c u < 64 ∧ seeN sd (kk u) (c u) x = true)
section WK
variable {w n : Nat} {sd : Int32} {ow kk c : Nat → Nat} {g : St}
theorem s_unitSpots {u x : Nat} {post : Int32 → St → Prop} (hs : CUs w sd n ow kk g) (hc : CUc w n c g) (hC : c u ≤ 64) (hu : u < n) (hx : x < 64)
    (h : post (if c u < 64 ∧ seeN sd (kk u) (c u) x = true then 1 else 0) g) : V_X1_unitSpots w (nI u) (nI x) g post := by
  obtain ⟨hn, h24, hG, hU⟩ := hs
  obtain ⟨o1, o2, o3, o4⟩ := hU u hu
  unfold V_X1_unitSpots
  refine s_place hn h24 hu ?_
  rw [hc u hu]
  by_cases hl : c u < 64
  · rw [iI_in hl]
    refine wp_f2 (nI_m1 (by omega)) (s_sight hn h24 hu o3 o4 (s_at (hG _ hl) hl ?_))
    rw [kSights_eq o4]
    have hs4 : sgN (kk u) ≤ 4 := by unfold sgN; split <;> omega
    have near : ∀ tn : Nat, tn = (if gN sd (c u) = 104 then 1 else 0) → J_X1_unitSpots_42 w (nI u) (nI x) post (nI x) (nI (c u)) (nI tn) (nI (sgN (kk u))) g := fun tn etn => by
      have htn : tn ≤ 1 := by rw [etn]; split <;> omega
      unfold J_X1_unitSpots_42
      refine s_distance hl hx ?_
      have h8 := dsN_lt hl hx
      rw [nI_add]
      refine pk_lt (sgN (kk u) + tn) (dsN (c u) x) (fun z => ?_) (fun z => s_isClear hG hl hx ?_)
      · rw [if_neg (fun y => by
          have := y.2
          unfold seeN at this
          rw [Bool.and_eq_true] at this
          have := of_decide_eq_true this.1
          omega)] at h
        exact h
      · have e : (c u < 64 ∧ seeN sd (kk u) (c u) x = true) ↔ (∀ j, j < dsN (c u) x → 0 < j → opN sd (c u) x j = true) := by
          unfold seeN
          rw [Bool.and_eq_true, decide_eq_true_eq, decide_eq_true_eq]
          exact ⟨fun y => y.2.2, fun y => ⟨hl, by omega, y⟩⟩
        simp only [e] at h
        by_cases hy : ∀ j, j < dsN (c u) x → 0 < j → opN sd (c u) x j = true
        · rw [if_pos hy] at h ⊢
          exact wp_f (by decide) h
        · rw [if_neg hy] at h ⊢
          exact wp_t rfl h
    exact And.symm (pk_eq (gN sd (c u)) 104 (fun e => near 1 (by rw [if_pos e])) (fun e => near 0 (by rw [if_neg e])) rfl rfl (Nat.lt_trans (gN_lt _ _) (by decide)))
  · rw [iI_out (by omega)]
    rw [if_neg (fun z => hl z.1)] at h
    exact wp_t2 rfl h
theorem s_playerSpots {p x : Nat} {post : Int32 → St → Prop} (hs : CUs w sd n ow kk g) (hc : CUc w n c g) (hC : ∀ u, u < n → c u ≤ 64) (hp : p < 4) (hx : x < 64)
    (h : post (if wchN n sd ow kk c p x = true then 1 else 0) g) : V_X1_playerSpots w (nI p) (nI x) g post := by
  unfold V_X1_playerSpots
  have h24 := hs.2.1
  refine lp_for n (fun k z => z = (nI p, nI x, nI k, g) ∧ ∀ u, u < k → ¬ (ow u = p ∧ c u < 64 ∧ seeN sd (kk u) (c u) x = true)) ?_ ?_ ⟨rfl, fun u hu => absurd hu (by omega)⟩
  · rintro K k _ hk ⟨rfl, hno⟩ hK
    show J_X1_playerSpots_2 w (nI p) (nI x) post K (nI p) (nI x) (nI k) g
    unfold J_X1_playerSpots_2 J_X1_playerSpots_36
    rw [hs.1]
    obtain ⟨o1, o2, -, -⟩ := hs.2.2.2 k hk
    have nxt : ¬ (ow k = p ∧ c k < 64 ∧ seeN sd (kk k) (c k) x = true) → K (nI p, nI x, nI k + 1, g) := fun hne => hK _ ⟨by rw [nI_up], fun u hu => by
      by_cases e : u = k
      · rw [e]; exact hne
      · exact hno u (by omega)⟩
    refine pk_le n k (fun z => absurd z (by omega)) (fun _ => s_owner hs.1 h24 hk ?_)
    rw [o1]
    refine And.symm (pk_eq (ow k) p (fun e => s_unitSpots hs hc (hC k hk) hk hx ?_) (fun e => nxt (fun z => e z.1)))
    by_cases hy : c k < 64 ∧ seeN sd (kk k) (c k) x = true
    · rw [if_pos hy]
      refine wp_f (by decide) ?_
      have hw1 : wchN n sd ow kk c p x = true := decide_eq_true ⟨k, hk, e, hy⟩
      rw [if_pos hw1] at h
      exact h
    · rw [if_neg hy]
      exact wp_t rfl (nxt (fun z => hy z.2))
  · rintro K _ ⟨rfl, hno⟩
    show J_X1_playerSpots_2 w (nI p) (nI x) post K (nI p) (nI x) (nI n) g
    unfold J_X1_playerSpots_2
    rw [hs.1]
    rw [if_neg (fun z => by
      obtain ⟨u, hu, hz⟩ := of_decide_eq_true z
      exact hno u hu hz)] at h
    exact pk_le n n (fun _ => h) (fun z => absurd z (by omega))
theorem r_watches {p x : Nat} {post : Int32 → St → Prop} (hs : MUs sd n ow kk g) (hc : MUc n c g) (hC : ∀ u, u < n → c u ≤ 64) (hp : p < 4) (hx : x < 64)
    (h : post (if wchN n sd ow kk c p x = true then 1 else 0) g) : V_X7_watches (nI p) (nI x) g post := by
  unfold V_X7_watches
  have h24 := hs.2.2.1
  refine lp_for n (fun k z => z = (nI p, nI x, nI k, g) ∧ ∀ u, u < k → ¬ (ow u = p ∧ c u < 64 ∧ seeN sd (kk u) (c u) x = true)) ?_ ?_ ⟨rfl, fun u hu => absurd hu (by omega)⟩
  · rintro K k _ hk ⟨rfl, hno⟩ hK
    show J_X7_watches_2 (nI p) (nI x) post K (nI p) (nI x) (nI k) g
    unfold J_X7_watches_2 J_X7_watches_31
    rw [hs.2.1]
    obtain ⟨o1, o2, -, -⟩ := hs.2.2.2 k hk
    have nxt : ¬ (ow k = p ∧ c k < 64 ∧ seeN sd (kk k) (c k) x = true) → K (nI p, nI x, nI k + 1, g) := fun hne => hK _ ⟨by rw [nI_up], fun u hu => by
      by_cases e : u = k
      · rw [e]; exact hne
      · exact hno u (by omega)⟩
    refine pk_le n k (fun z => absurd z (by omega)) (fun _ => ⟨vp_in_nI (by omega) (by decide), ?_⟩)
    rw [nI_clamp (by omega), o1]
    refine And.symm (pk_eq (ow k) p (fun e => r_looks hs hc (hC k hk) hk hx ?_) (fun e => nxt (fun z => e z.1)))
    by_cases hy : c k < 64 ∧ seeN sd (kk k) (c k) x = true
    · rw [if_pos hy]
      refine wp_f (by decide) ?_
      have hw1 : wchN n sd ow kk c p x = true := decide_eq_true ⟨k, hk, e, hy⟩
      rw [if_pos hw1] at h
      exact h
    · rw [if_neg hy]
      exact wp_t rfl (nxt (fun z => hy z.2))
  · rintro K _ ⟨rfl, hno⟩
    show J_X7_watches_2 (nI p) (nI x) post K (nI p) (nI x) (nI n) g
    unfold J_X7_watches_2
    rw [hs.2.1]
    rw [if_neg (fun z => by
      obtain ⟨u, hu, hz⟩ := of_decide_eq_true z
      exact hno u hu hz)] at h
    exact pk_le n n (fun _ => h) (fun z => absurd z (by omega))
end WK
