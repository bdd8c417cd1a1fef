/-! PART 64: the class's sights -/
theorem CT_kp {tr : Nat → Nat → Bool} {g g' : St} {ks ss : List Nat} (h : CT tr g) (hk : kp ks ss g g') (h1 : 26 ∉ ks) : CT tr g' := fun p hp => by rw [hk.1 26 h1]; exact h p hp
theorem s_hasTreaty {tr : Nat → Nat → Bool} {g : St} {p q : Nat} {post : Int32 → St → Prop} (h : CT tr g) (hp : p < 4) (hq : q < 4) (hpo : post (nI (bN (tr p q))) g) : V_X6_hasTreaty (nI p) (nI q) g post := by
  unfold V_X6_hasTreaty
  rw [nI_clamp (by omega)]
  have e : bt (g.1 26 p) q = tr p q := by rw [h p hp q (by omega), decide_eq_true hq, Bool.true_and]
  refine ⟨vp_in_nI hp (by decide), ?_⟩
  cases ht : tr p q with
  | false => rw [ht] at hpo; exact wp_t ((bt_tst _ (by omega)).mpr (e.trans ht)) hpo
  | true => rw [ht] at hpo; exact wp_f (fun z => by have := (bt_tst _ (by omega)).mp z; rw [e, ht] at this; cases this) hpo
section CS
variable {n t : Nat} {sd : Int32} {ow kk c : Nat → Nat} {tr : Nat → Nat → Bool} {J : Nat → Nat × (Nat → Nat)} {g g' : St}
theorem sgtN_own {p u : Nat} (e : ow u = p) : sgtN n sd ow kk c p u = false := by
  cases hh : sgtN n sd ow kk c p u with
  | false => rfl
  | true => exact absurd e (sgtN_lt hh).2
theorem addsN_no {z : Nat} {f : Nat → Nat} {x : Nat} (h : ¬ hasK z f (kyN x)) : addsN z f x = addN z f x := if_neg h
/-- what a player's own units sighted -/
def COw (n : Nat) (S : Nat → Bool) (p : Nat) (g : St) : Prop := ∀ i : Nat, i < 32 → bt (g.1 27 p) i = (decide (i < n) && S i)
theorem s_watch {p : Nat} {post : St → Prop} {J0 : Nat × (Nat → Nat)} (hs : CUs 0 sd n ow kk g) (hc : CUc 0 n c g) (hC : ∀ u, u < n → c u ≤ 64) (ht : t < 100) (hd : g.2 1 = nI t) (hp : p < 4) (hI : CI p J0.1 J0.2 g) (hb : Ibd J0.1 J0.2) (hky : ∀ k, k < J0.1 → kyN (J0.2 k) < t * 1000)
    (h : ∀ g', kp [29 + 2 * p, 27] [10 + p] g g' → CI p (wtF (sgtN n sd ow kk c p) (numN t c) n J0).1 (wtF (sgtN n sd ow kk c p) (numN t c) n J0).2 g' → COw n (sgtN n sd ow kk c p) p g' → (∀ q, q ≠ p → g'.1 27 q = g.1 27 q) → post g') : V_X6_watch (nI p) g post := by
  have h24 := hs.2.1
  unfold V_X6_watch
  refine lp_for n (fun u y => y.1 = nI p ∧ y.2.2.1 = nI u ∧ (∀ i : Nat, i < 32 → bt y.2.1 i = (decide (i < u) && sgtN n sd ow kk c p i)) ∧ kp [29 + 2 * p] [10 + p] g y.2.2.2 ∧ CI p (wtF (sgtN n sd ow kk c p) (numN t c) u J0).1 (wtF (sgtN n sd ow kk c p) (numN t c) u J0).2 y.2.2.2) ?_ ?_ ?_
  · rintro K u ⟨y1, y2, y3, g1⟩ hu ⟨e1, e3, hbits, hkp, hI1⟩ hK
    dsimp only at e1 e3 hbits hkp hI1
    subst e1 e3
    show J_X6_watch_13 (nI p) post K (nI p) y2 (nI u) g1
    have hs1 : CUs 0 sd n ow kk g1 := CUs_kp hs hkp (by simp <;> omega) (by simp <;> omega) (by simp <;> omega) (by simp <;> omega)
    have hc1 : CUc 0 n c g1 := CUc_kp hc hkp (by simp <;> omega)
    have hd1 : g1.2 1 = nI t := (hkp.2 1 (by simp <;> omega)).trans hd
    have hbu := wtF_bd (c := c) (S := sgtN n sd ow kk c p) ht h24 (fun u _ hs => (sgtN_lt hs).1) hb (Nat.le_of_lt hu)
    have hkyu : ∀ k, k < (wtF (sgtN n sd ow kk c p) (numN t c) u J0).1 → kyN ((wtF (sgtN n sd ow kk c p) (numN t c) u J0).2 k) < t * 1000 + u :=
      (wtF_all (P := fun x => kyN x < t * 1000 + u) hb.1 (fun k hk => show kyN (J0.2 k) < t * 1000 + u from Nat.lt_of_lt_of_le (hky k hk) (Nat.le_add_right _ _)) (fun i hi hsg => show kyN (numN t c i) < t * 1000 + u by rw [numN_ky (sgtN_lt hsg).1 (by omega)]; omega)).2
    obtain ⟨o1, o2, -, -⟩ := hs1.2.2.2 u hu
    have no : sgtN n sd ow kk c p u = false → K (nI p, y2, nI u + 1, g1) := fun hf => hK _ ⟨rfl, nI_up u, fun i hi => by
      rw [hbits i hi]
      by_cases e : i = u
      · rw [e, hf, Bool.and_false, Bool.and_false]
      · have : (i < u + 1) = (i < u) := propext ⟨fun z => by omega, fun z => by omega⟩
        simp only [this], hkp, by rw [wtF_no hf]; exact hI1⟩
    unfold J_X6_watch_13 J_X6_watch_83
    have e3 : g1.2 3 = nI n := hs1.1
    rw [e3]
    refine pk_le n u (fun z => absurd z (by omega)) (fun _ => s_place hs1.1 h24 hu ?_)
    have ecu : g1.1 (8 + 10 * 0) u = iI 64 (c u) := hc1 u hu
    rw [ecu]
    by_cases hl : c u < 64
    · rw [iI_in hl]
      refine wp_f (nI_m1 (by omega)) (s_owner hs1.1 h24 hu ?_)
      rw [o1]
      refine pk_eq (ow u) p (fun e => no ?_) (fun e => s_playerSpots hs1 hc1 hC hp hl ?_)
      · exact sgtN_own e
      · have es : sgtN n sd ow kk c p u = wchN n sd ow kk c p (c u) := by
          unfold sgtN
          rw [decide_eq_true hl, decide_eq_true e, Bool.true_and, Bool.true_and]
        cases hw : wchN n sd ow kk c p (c u) with
        | false => exact wp_t rfl (no (es.trans hw))
        | true =>
          have hsg := es.trans hw
          refine wp_f (by decide) ⟨vp_in_nI hp (by decide), ?_⟩
          rw [hd1, nI_clamp (by omega)]
          refine s_add (x := numN t c u) rfl (by omega) (by omega) (by omega) hI1 hbu (fun g2 k2 hI2 => hK _ ⟨rfl, nI_up u, fun i hi => ?_, kp_tr hkp k2, ?_⟩)
          · show bt (y2 ||| _) i = _
            rw [bt_set y2 (by omega) hi, hbits i hi]
            by_cases e : i = u
            · subst e
              rw [decide_eq_true rfl, Bool.or_true, decide_eq_true (by omega), hsg, Bool.true_and]
            · have : (i < u + 1) = (i < u) := propext ⟨fun z => by omega, fun z => by omega⟩
              rw [decide_eq_false e, Bool.or_false]
              simp only [this]
          · have e : wtF (sgtN n sd ow kk c p) (numN t c) (u + 1) J0 = addsN (wtF (sgtN n sd ow kk c p) (numN t c) u J0).1 (wtF (sgtN n sd ow kk c p) (numN t c) u J0).2 (numN t c u) := if_pos hsg
            rw [e, addsN_no (fun ⟨k, hk, ek⟩ => by
              have := hkyu k hk
              rw [ek, numN_ky hl (by omega)] at this
              omega)]
            exact hI2
    · rw [iI_out (by omega)]
      refine wp_t rfl (no ?_)
      unfold sgtN; rw [decide_eq_false hl, Bool.false_and]
  · rintro K ⟨y1, y2, y3, g1⟩ ⟨e1, e3, hbits, hkp, hI1⟩
    dsimp only at e1 e3 hbits hkp hI1
    subst e1 e3
    show J_X6_watch_13 (nI p) post K (nI p) y2 (nI n) g1
    have e3 : g1.2 3 = nI n := (hkp.2 3 (by simp <;> omega)).trans hs.1
    unfold J_X6_watch_13
    rw [e3, nI_clamp (by omega)]
    refine pk_le n n (fun _ => ⟨vp_in_nI hp (by decide), h _ ?_ ?_ ?_ ?_⟩) (fun z => absurd z (by omega))
    · exact kp_sA (kp_up hkp (fun k hk => by simp at hk ⊢; exact Or.inl hk) (fun _ z => z)) (by simp)
    · exact ⟨hI1.1, fun k hk => by rw [sA_ne _ _ (by omega)]; exact hI1.2 k hk⟩
    · intro i hi
      show bt ((sA g1 27 _).1 27 p) i = _
      rw [sA_eq, pk_us]
      exact hbits i hi
    · intro q hq
      show (sA g1 27 _).1 27 q = _
      rw [sA_eq, pk_un hq, hkp.1 27 (by simp <;> omega)]
  · exact ⟨rfl, rfl, fun i _ => by rw [b_0, decide_eq_false (by omega), Bool.false_and], kp_rf, hI⟩
theorem s_hear {p q : Nat} {post : St → Prop} {J0 : Nat × (Nat → Nat)} (hs : CUs 0 sd n ow kk g) (hc : CUc 0 n c g) (ht : t < 100) (hd : g.2 1 = nI t) (hp : p < 4) (hq : q < 4) (hI : CI p J0.1 J0.2 g) (hb : Ibd J0.1 J0.2) (ho : COw n (sgtN n sd ow kk c q) q g)
    (h : ∀ g', kp [29 + 2 * p] [10 + p] g g' → CI p (wtF (hrS n sd ow kk c p q) (numN t c) n J0).1 (wtF (hrS n sd ow kk c p q) (numN t c) n J0).2 g' → post g') : V_X6_hear (nI p) (nI q) g post := by
  have h24 := hs.2.1
  unfold V_X6_hear
  refine lp_for n (fun u y => y.1 = nI p ∧ y.2.1 = nI q ∧ y.2.2.1 = nI u ∧ kp [29 + 2 * p] [10 + p] g y.2.2.2 ∧ CI p (wtF (hrS n sd ow kk c p q) (numN t c) u J0).1 (wtF (hrS n sd ow kk c p q) (numN t c) u J0).2 y.2.2.2) ?_ ?_ ?_
  · rintro K u ⟨y1, y2, y3, g1⟩ hu ⟨e1, e2, e3, hkp, hI1⟩ hK
    dsimp only at e1 e2 e3 hkp hI1
    subst e1 e2 e3
    show J_X6_hear_11 (nI p) (nI q) post K (nI p) (nI q) (nI u) g1
    have hs1 : CUs 0 sd n ow kk g1 := CUs_kp hs hkp (by simp <;> omega) (by simp <;> omega) (by simp <;> omega) (by simp <;> omega)
    have hc1 : CUc 0 n c g1 := CUc_kp hc hkp (by simp <;> omega)
    have hd1 : g1.2 1 = nI t := (hkp.2 1 (by simp <;> omega)).trans hd
    have ho1 : bt (g1.1 27 q) u = sgtN n sd ow kk c q u := by rw [hkp.1 27 (by simp <;> omega), ho u (by omega), decide_eq_true hu, Bool.true_and]
    have hbu := wtF_bd (c := c) (S := hrS n sd ow kk c p q) ht h24 (fun u _ hs => (hrS_lt hs).1) hb (Nat.le_of_lt hu)
    obtain ⟨o1, o2, -, -⟩ := hs1.2.2.2 u hu
    have no : hrS n sd ow kk c p q u = false → K (nI p, nI q, nI u + 1, g1) := fun hf => hK _ ⟨rfl, rfl, nI_up u, hkp, by rw [wtF_no hf]; exact hI1⟩
    unfold J_X6_hear_11 J_X6_hear_39 J_X6_hear_95
    have e3 : g1.2 3 = nI n := hs1.1
    rw [e3, nI_clamp (n := q) (by omega)]
    refine pk_le n u (fun z => absurd z (by omega)) (fun _ => ⟨vp_in_nI hq (by decide), ?_⟩)
    cases hsg : sgtN n sd ow kk c q u with
    | false =>
      refine wp_t ((bt_tst _ (by omega)).mpr (ho1.trans hsg)) (wp_t rfl (no ?_))
      unfold hrS; rw [hsg, Bool.and_false]
    | true =>
      have hl := (sgtN_lt hsg).1
      refine wp_f (fun z => by have := (bt_tst _ (by omega)).mp z; rw [ho1, hsg] at this; cases this) (wp_f (by decide) (s_owner hs1.1 h24 hu ?_))
      rw [o1]
      refine pk_eq (ow u) p (fun e => no ?_) (fun e => ⟨vp_in_nI hp (by decide), ?_⟩)
      · unfold hrS; rw [decide_eq_false (fun z => z e), Bool.false_and]
      · have hh : hrS n sd ow kk c p q u = true := by unfold hrS; rw [decide_eq_true e, hsg]; rfl
        have e9 : wtF (hrS n sd ow kk c p q) (numN t c) (u + 1) J0 = addsN (wtF (hrS n sd ow kk c p q) (numN t c) u J0).1 (wtF (hrS n sd ow kk c p q) (numN t c) u J0).2 (numN t c u) := if_pos hh
        rw [hd1, nI_clamp (n := p) (by omega)]
        refine s_has (by omega) (by omega) hI1 hbu (fun hk => wp_f2 (by decide) (hK _ ⟨rfl, rfl, nI_up u, hkp, ?_⟩)) (fun hk => wp_t2 rfl ⟨vp_in_nI hp (by decide), s_place hs1.1 h24 hu ?_⟩)
        · rw [← numN_ky hl (by omega)] at hk
          have e8 : wtF (hrS n sd ow kk c p q) (numN t c) (u + 1) J0 = wtF (hrS n sd ow kk c p q) (numN t c) u J0 := e9.trans (if_pos hk)
          rw [e8]; exact hI1
        · have ecu : g1.1 (8 + 10 * 0) u = iI 64 (c u) := hc1 u hu
          rw [ecu, iI_in hl, hd1]
          refine s_add (x := numN t c u) rfl (by omega) (by omega) (by omega) hI1 hbu (fun g2 k2 hI2 => hK _ ⟨rfl, rfl, nI_up u, kp_tr hkp k2, ?_⟩)
          rw [← numN_ky hl (by omega)] at hk
          rw [e9, addsN_no hk]
          exact hI2
  · rintro K ⟨y1, y2, y3, g1⟩ ⟨e1, e2, e3, hkp, hI1⟩
    dsimp only at e1 e2 e3 hkp hI1
    subst e1 e2 e3
    show J_X6_hear_11 (nI p) (nI q) post K (nI p) (nI q) (nI n) g1
    have e3 : g1.2 3 = nI n := (hkp.2 3 (by simp <;> omega)).trans hs.1
    unfold J_X6_hear_11
    rw [e3]
    exact pk_le n n (fun _ => h g1 hkp hI1) (fun z => absurd z (by omega))
  · exact ⟨rfl, rfl, rfl, kp_rf, hI⟩
theorem s_hearAll {p : Nat} {post : St → Prop} {J0 : Nat × (Nat → Nat)} (hs : CUs 0 sd n ow kk g) (hc : CUc 0 n c g) (ht : t < 100) (hd : g.2 1 = nI t) (hp : p < 4) (htr : CT tr g) (hI : CI p J0.1 J0.2 g) (hb : Ibd J0.1 J0.2) (ho : ∀ q : Nat, q < 4 → COw n (sgtN n sd ow kk c q) q g)
    (h : ∀ g', kp [29 + 2 * p] [10 + p] g g' → CI p (hrF (tr p) (hrS n sd ow kk c p) (numN t c) n 4 J0).1 (hrF (tr p) (hrS n sd ow kk c p) (numN t c) n 4 J0).2 g' → post g') : V_X6_hearAll (nI p) g post := by
  have h24 := hs.2.1
  unfold V_X6_hearAll
  refine lp_for 4 (fun q y => y.1 = nI p ∧ y.2.1 = nI q ∧ kp [29 + 2 * p] [10 + p] g y.2.2 ∧ CI p (hrF (tr p) (hrS n sd ow kk c p) (numN t c) n q J0).1 (hrF (tr p) (hrS n sd ow kk c p) (numN t c) n q J0).2 y.2.2) ?_ ?_ ?_
  · rintro K q ⟨y1, y2, g1⟩ hq ⟨e1, e2, hkp, hI1⟩ hK
    dsimp only at e1 e2 hkp hI1
    subst e1 e2
    show J_X6_hearAll_2 (nI p) post K (nI p) (nI q) g1
    have hs1 : CUs 0 sd n ow kk g1 := CUs_kp hs hkp (by simp <;> omega) (by simp <;> omega) (by simp <;> omega) (by simp <;> omega)
    have hc1 : CUc 0 n c g1 := CUc_kp hc hkp (by simp <;> omega)
    have hd1 : g1.2 1 = nI t := (hkp.2 1 (by simp <;> omega)).trans hd
    have ho1 : COw n (sgtN n sd ow kk c q) q g1 := fun i hi => by rw [hkp.1 27 (by simp <;> omega)]; exact ho q hq i hi
    have hbq := hrF_bd (c := c) (T := tr p) (S := hrS n sd ow kk c p) (q := q) ht h24 (fun q u _ hs => (hrS_lt hs).1) hb
    unfold J_X6_hearAll_2 J_X6_hearAll_22
    refine pk_le 4 q (fun z => absurd z (by omega)) (fun _ => s_hasTreaty (CT_kp htr hkp (by simp <;> omega)) hp hq ?_)
    cases htq : tr p q with
    | false =>
      refine wp_t rfl (hK _ ⟨rfl, nI_up q, hkp, ?_⟩)
      have e : hrF (tr p) (hrS n sd ow kk c p) (numN t c) n (q + 1) J0 = hrF (tr p) (hrS n sd ow kk c p) (numN t c) n q J0 := if_neg (by rw [htq]; decide)
      rw [e]; exact hI1
    | true =>
      refine wp_f (by decide) (s_hear hs1 hc1 ht hd1 hp hq hI1 hbq ho1 (fun g2 k2 hI2 => hK _ ⟨rfl, nI_up q, kp_tr hkp k2, ?_⟩))
      have e : hrF (tr p) (hrS n sd ow kk c p) (numN t c) n (q + 1) J0 = wtF (hrS n sd ow kk c p q) (numN t c) n (hrF (tr p) (hrS n sd ow kk c p) (numN t c) n q J0) := if_pos htq
      rw [e]; exact hI2
  · rintro K ⟨y1, y2, g1⟩ ⟨e1, e2, hkp, hI1⟩
    dsimp only at e1 e2 hkp hI1
    subst e1 e2
    show J_X6_hearAll_2 (nI p) post K (nI p) (nI 4) g1
    unfold J_X6_hearAll_2
    exact pk_le 4 4 (fun _ => h g1 hkp hI1) (fun z => absurd z (by omega))
  · exact ⟨rfl, rfl, kp_rf, hI⟩
end CS
