/-! PART 68: the class's saves: breaking, rebuilding, loading -/
def brkN (bk : Nat → Nat → Bool) (p b : Nat) (v : Bool) : Nat → Nat → Bool := fun q i => if q = p ∧ i = b then v else bk q i
theorem brkN_s {bk : Nat → Nat → Bool} {p b : Nat} {v : Bool} : brkN bk p b v p b = v := if_pos ⟨rfl, rfl⟩
theorem brkN_i {bk : Nat → Nat → Bool} {p b i : Nat} {v : Bool} (h : i ≠ b) : brkN bk p b v p i = bk p i := if_neg (fun z => h z.2)
theorem brkN_q {bk : Nat → Nat → Bool} {p q b i : Nat} {v : Bool} (h : q ≠ p) : brkN bk p b v q i = bk q i := if_neg (fun z => h z.1)
/-- whether a block can be rebuilt -/
def crN (al en bk : Nat → Nat → Bool) (p b : Nat) : Bool := decide (∃ q : Nat, q < 4 ∧ al p q = true) && decide (∀ q : Nat, q < 4 → al p q = true → en p q = false ∧ bk q b = false)
section CW
variable {p : Nat} {F : Nat → Nat × (Nat → Nat)} {bk al en : Nat → Nat → Bool} {g g' : St}
theorem s_blockEnd {z b : Nat} {post : Int32 → St → Prop} (hs : g.2 (20 + p) = nI z) (hz : z ≤ 60) (hb : b < 100) (h : post (nI (min z (4 * b + 4))) g) : V_X0_blockEnd p (nI b) g post := by
  unfold V_X0_blockEnd
  rw [hs]
  have e : (4 : Int32) * nI b + 4 = nI (4 * b + 4) := by
    show nI 4 * nI b + nI 4 = _
    rw [pk_mul, nI_add]
  rw [e]
  by_cases hl : z < 4 * b + 4
  · rw [if_pos (nI_lt hl (by omega))]
    rw [Nat.min_eq_left (by omega)] at h
    exact h
  · rw [if_neg (nI_nlt (by omega) (by omega))]
    rw [Nat.min_eq_right (by omega)] at h
    exact h
theorem i_4b (b : Nat) : (4 : Int32) * nI b = nI (4 * b) := pk_mul 4 b
theorem s_breakOne {b : Nat} {post : St → Prop} (hq : CSq p F bk al en g) (hF : Fok F bk) (hp : p < 4) (hb : 4 * b < (F p).1)
    (h : ∀ g', kp [37 + 4 * p] [24 + p] g g' → CSq p F (brkN bk p b true) al en g' → post g') : V_X0_breakOne p (nI b) g post := by
  have hz := (hF p hp).1.1
  unfold V_X0_breakOne
  refine wp_f (nI_pos (by omega)) (s_blockCount hq.1 hz (pk_lt b (((F p).1 + 3) / 4) (fun _ => ?_) (fun z => absurd z (by omega))))
  rw [i_4b]
  have k0 : kp [37 + 4 * p] [24 + p] g (sS g (24 + p) ((g.2 (24 + p)) ||| ((1 : Int32) <<< (nI b &&& 31)))) := kp_sS kp_rf (by simp)
  have b0 : ∀ i : Nat, i < 32 → bt ((sS g (24 + p) ((g.2 (24 + p)) ||| ((1 : Int32) <<< (nI b &&& 31)))).2 (24 + p)) i = brkN bk p b true p i := fun i hi => by
    rw [sS_eq, bt_set _ (by omega) hi, hq.2.1 i hi]
    by_cases e : i = b
    · rw [e, brkN_s, decide_eq_true rfl, Bool.or_true]
    · rw [brkN_i e, decide_eq_false e, Bool.or_false]
  have s0 : ∀ k, k ≠ 24 + p → (sS g (24 + p) ((g.2 (24 + p)) ||| ((1 : Int32) <<< (nI b &&& 31)))).2 k = g.2 k := fun k hk => sS_ne _ _ hk
  have a0 : ∀ k, (sS g (24 + p) ((g.2 (24 + p)) ||| ((1 : Int32) <<< (nI b &&& 31)))).1 k = g.1 k := fun k => rfl
  generalize sS g (24 + p) ((g.2 (24 + p)) ||| ((1 : Int32) <<< (nI b &&& 31))) = g0 at k0 b0 s0 a0 ⊢
  have hend : min (F p).1 (4 * b + 4) - 4 * b ≤ 4 := by omega
  refine lp_for (min (F p).1 (4 * b + 4) - 4 * b) (fun k y => y.1 = nI b ∧ y.2.1 = nI (4 * b + k) ∧ kp [37 + 4 * p] [] g0 y.2.2 ∧ ∀ j, ¬ j / 4 = b → y.2.2.1 (37 + 4 * p) j = g0.1 (37 + 4 * p) j) ?_ ?_ ⟨rfl, rfl, kp_rf, fun _ _ => rfl⟩
  · rintro K k ⟨y1, y2, g1⟩ hk ⟨e1, e2, k1, h1⟩ hK
    dsimp only at e1 e2 k1 h1
    subst e1 e2
    show J_X0_breakOne_29 p (nI b) post K (nI b) (nI (4 * b + k)) g1
    unfold J_X0_breakOne_29
    refine s_blockEnd (z := (F p).1) (by rw [k1.2 _ (by simp), s0 _ (by omega)]; exact hq.1) hz (by omega) (pk_le (min (F p).1 (4 * b + 4)) (4 * b + k) (fun z => absurd z (by omega)) (fun _ => ⟨vp_in_nI (by omega) (by omega), hK _ ⟨rfl, by rw [nI_up]; rfl, kp_sA k1 (by simp), fun j hj => ?_⟩⟩))
    show (sA g1 (37 + 4 * p) _).1 (37 + 4 * p) j = _
    rw [sA_eq, nI_clamp (by omega)]
    unfold upd
    rw [if_neg (by omega)]
    exact h1 j hj
  · rintro K ⟨y1, y2, g1⟩ ⟨e1, e2, k1, h1⟩
    dsimp only at e1 e2 k1 h1
    subst e1 e2
    show J_X0_breakOne_29 p (nI b) post K (nI b) (nI (4 * b + (min (F p).1 (4 * b + 4) - 4 * b))) g1
    unfold J_X0_breakOne_29
    refine s_blockEnd (z := (F p).1) (by rw [k1.2 _ (by simp), s0 _ (by omega)]; exact hq.1) hz (by omega) (pk_le (min (F p).1 (4 * b + 4)) (4 * b + (min (F p).1 (4 * b + 4) - 4 * b)) (fun _ => h g1 (kp_tr k0 (kp_up k1 (fun _ z => z) (fun k hk => absurd hk (by simp)))) ?_) (fun z => absurd z (by omega)))
    refine ⟨?_, fun i hi => ?_, fun i hi => ?_, ?_, fun k hk => ?_, fun k hk hbk => ?_⟩
    · rw [k1.2 _ (by simp), s0 _ (by omega)]; exact hq.1
    · rw [k1.2 _ (by simp)]; exact b0 i hi
    · rw [k1.2 _ (by simp), s0 _ (by omega)]; exact hq.2.2.1 i hi
    · rw [k1.2 _ (by simp), s0 _ (by omega)]; exact hq.2.2.2.1
    · rw [k1.1 _ (by simp <;> omega), a0]; exact hq.2.2.2.2.1 k hk
    · by_cases e : k / 4 = b
      · rw [e, brkN_s] at hbk; cases hbk
      · rw [brkN_i e] at hbk
        rw [h1 k e, a0]
        exact hq.2.2.2.2.2 k hk hbk
theorem s_endTreaty {q : Nat} {post : St → Prop} (hq : CSq p F bk al en g) (hq4 : q < 4) (h1 : al p q = true → post (sS g (32 + p) 1)) (h0 : al p q = false → post g) : V_X0_endTreaty p (nI q) g post := by
  unfold V_X0_endTreaty
  refine s_isAlly hq.2.2.1 hq4 ?_
  cases hal : al p q with
  | false => exact wp_t rfl (h0 hal)
  | true => exact wp_f (by decide) (h1 hal)
theorem s_canRebuild {b : Nat} {post : Int32 → St → Prop} (hall : ∀ q : Nat, q < 4 → CSq q F bk al en g) (hF : Fok F bk) (hp : p < 4) (hb : b < 32) (h : post (nI (bN (crN al en bk p b))) g) : V_X0_canRebuild p (nI b) g post := by
  have hq := hall p hp
  unfold V_X0_canRebuild
  by_cases hsome : ∃ q : Nat, q < 4 ∧ al p q = true
  · have hne : ¬ g.2 (28 + p) = 0 := fun z => by
      obtain ⟨q, hq4, hal⟩ := hsome
      have := bt_zero.mp z q (by omega)
      rw [hq.2.2.1 q (by omega), decide_eq_true hq4, hal] at this
      cases this
    refine wp_f hne ?_
    by_cases hen : ∀ q : Nat, q < 4 → al p q = true → en p q = false
    · refine wp_t (hq.2.2.2.1.mpr hen) ?_
      refine lp_for 4 (fun q y => y = (nI b, nI q, g) ∧ ∀ i, i < q → al p i = true → bk i b = false) ?_ ?_ ⟨rfl, fun i hi => absurd hi (by omega)⟩
      · rintro K q _ hq4 ⟨rfl, hno⟩ hK
        show J_X0_canRebuild_18 p (nI b) post K (nI b) (nI q) g
        have nxt : (al p q = true → bk q b = false) → K (nI b, nI q + 1, g) := fun hn => hK _ ⟨by rw [nI_up], fun i hi ha => by
          by_cases e : i = q
          · rw [e] at ha ⊢; exact hn ha
          · exact hno i (by omega) ha⟩
        unfold J_X0_canRebuild_18 J_X0_canRebuild_43
        refine pk_le 4 q (fun z => absurd z (by omega)) (fun _ => s_isAlly hq.2.2.1 hq4 ?_)
        cases hal : al p q with
        | false => exact wp_t rfl (nxt (fun z => by rw [hal] at z; cases z))
        | true =>
          refine wp_f (by decide) ⟨vp_in_nI hq4 (by omega), ?_⟩
          rw [nI_clamp (by omega)]
          refine s_isBroken (hall q hq4) hF hq4 hb ?_
          cases hbk : bk q b with
          | false => exact wp_t rfl (nxt (fun _ => hbk))
          | true =>
            have e : crN al en bk p b = false := by
              unfold crN
              rw [decide_eq_false (p := ∀ q : Nat, q < 4 → al p q = true → en p q = false ∧ bk q b = false) (fun z => by have := (z q hq4 hal).2; rw [hbk] at this; cases this), Bool.and_false]
            rw [e] at h
            exact wp_f (by decide) h
      · rintro K _ ⟨rfl, hno⟩
        show J_X0_canRebuild_18 p (nI b) post K (nI b) (nI 4) g
        have e : crN al en bk p b = true := by
          unfold crN
          rw [decide_eq_true hsome, decide_eq_true (p := ∀ q : Nat, q < 4 → al p q = true → en p q = false ∧ bk q b = false) (fun q hq4 ha => ⟨hen q hq4 ha, hno q hq4 ha⟩)]
          rfl
        rw [e] at h
        unfold J_X0_canRebuild_18
        exact pk_le 4 4 (fun _ => h) (fun z => absurd z (by omega))
    · have e : crN al en bk p b = false := by
        unfold crN
        rw [decide_eq_false (p := ∀ q : Nat, q < 4 → al p q = true → en p q = false ∧ bk q b = false) (fun z => hen (fun q hq4 ha => (z q hq4 ha).1)), Bool.and_false]
      rw [e] at h
      exact wp_f (fun z => hen (hq.2.2.2.1.mp z)) h
  · have hz : g.2 (28 + p) = 0 := bt_zero.mpr (fun i hi => by
      rw [hq.2.2.1 i hi]
      by_cases e : i < 4
      · cases hal : al p i with
        | false => rw [Bool.and_false]
        | true => exact absurd ⟨i, e, hal⟩ hsome
      · rw [decide_eq_false e, Bool.false_and])
    have e : crN al en bk p b = false := by
      unfold crN
      rw [decide_eq_false hsome, Bool.false_and]
    rw [e] at h
    exact wp_t hz h
theorem xor_back (a b : Int32) : (a ^^^ b) ^^^ b = a := by
  apply b_ext
  intro i _
  rw [b_xor, b_xor]
  cases bt a i <;> cases bt b i <;> rfl
theorem s_rebuild {b : Nat} {post : St → Prop} (hall : ∀ q : Nat, q < 4 → CSq q F bk al en g) (hpa : CPa p F al g) (hF : Fok F bk) (hp : p < 4) (hb : 4 * b < (F p).1) (hbp : bk p b = true) (hno : ∀ q : Nat, q < 4 → al p q = true → bk q b = false)
    (h : ∀ g', kp [37 + 4 * p] [24 + p] g g' → CSq p F (brkN bk p b false) al en g' → post g') : V_X0_rebuild p (nI b) g post := by
  have hz := (hF p hp).1.1
  have hzall : ∀ q : Nat, q < 4 → (F q).1 ≤ 60 := fun q hq => (hF q hq).1.1
  have hq := hall p hp
  unfold V_X0_rebuild
  refine wp_f (nI_pos (by omega)) (s_blockCount hq.1 hz (pk_lt b (((F p).1 + 3) / 4) (fun _ => ?_) (fun z => absurd z (by omega))))
  rw [i_4b]
  have hend : min (F p).1 (4 * b + 4) - 4 * b ≤ 4 := by omega
  refine lp_for (min (F p).1 (4 * b + 4) - 4 * b) (fun k y => y.1 = nI b ∧ y.2.1 = nI (4 * b + k) ∧ kp [37 + 4 * p] [] g y.2.2 ∧ (∀ j, ¬ j / 4 = b → y.2.2.1 (37 + 4 * p) j = g.1 (37 + 4 * p) j) ∧ ∀ j, j < k → y.2.2.1 (37 + 4 * p) (4 * b + j) = nI ((F p).2 (4 * b + j))) ?_ ?_ ⟨rfl, rfl, kp_rf, fun _ _ => rfl, fun j hj => absurd hj (by omega)⟩
  · rintro K k ⟨y1, y2, g1⟩ hk ⟨e1, e2, k1, h1, h2⟩ hK
    dsimp only at e1 e2 k1 h1 h2
    subst e1 e2
    show J_X0_rebuild_17 p (nI b) post K (nI b) (nI (4 * b + k)) g1
    unfold J_X0_rebuild_17
    have hq1 : CSq p F bk al en g1 := by
      refine ⟨?_, fun i hi => ?_, fun i hi => ?_, ?_, fun j hj => ?_, fun j hj hbk => ?_⟩
      · rw [k1.2 _ (by simp)]; exact hq.1
      · rw [k1.2 _ (by simp)]; exact hq.2.1 i hi
      · rw [k1.2 _ (by simp)]; exact hq.2.2.1 i hi
      · rw [k1.2 _ (by simp)]; exact hq.2.2.2.1
      · rw [k1.1 _ (by simp <;> omega)]; exact hq.2.2.2.2.1 j hj
      · by_cases e : j / 4 = b
        · rw [e, hbp] at hbk; cases hbk
        · rw [h1 j e]; exact hq.2.2.2.2.2 j hj hbk
    have hall1 : ∀ q : Nat, q < 4 → CSq q F bk al en g1 := fun q hq4 => by
      by_cases e : q = p
      · rw [e]; exact hq1
      · exact CSq_kp (hall q hq4) k1 (by simp <;> omega) (by simp <;> omega) (by simp) (by simp) (by simp) (by simp)
    have hp1 : g1.1 (38 + 4 * p) (4 * b + k) = nI (nuN (F p) (4 * b + k)) ^^^ axF F (al p) (4 * b + k) 4 := by
      rw [k1.1 _ (by simp <;> omega)]; exact hpa (4 * b + k) (by omega)
    have hnu : nuN (F p) (4 * b + k) = (F p).2 (4 * b + k) := if_pos (by omega)
    refine s_blockEnd (z := (F p).1) hq1.1 hz (by omega) (pk_le (min (F p).1 (4 * b + 4)) (4 * b + k) (fun z => absurd z (by omega)) (fun _ => ⟨vp_in_nI (by omega) (by omega), s_alliesAt hall1 hzall hp (by omega) (fun q hq4 ha => ?_) ⟨vp_in_nI (by omega) (by omega), hK _ ⟨rfl, by rw [nI_up]; rfl, kp_sA k1 (by simp), fun j hj => ?_, fun j hj => ?_⟩⟩⟩))
    · rw [show (4 * b + k) / 4 = b by omega]; exact hno q hq4 ha
    · show (sA g1 (37 + 4 * p) _).1 (37 + 4 * p) j = _
      rw [sA_eq, nI_clamp (by omega)]
      unfold upd
      rw [if_neg (by omega)]
      exact h1 j hj
    · show (sA g1 (37 + 4 * p) _).1 (37 + 4 * p) (4 * b + j) = _
      rw [sA_eq, nI_clamp (by omega), hp1, xor_back, hnu]
      unfold upd
      by_cases e : j = k
      · rw [e, if_pos rfl]
      · rw [if_neg (by omega)]; exact h2 j (by omega)
  · rintro K ⟨y1, y2, g1⟩ ⟨e1, e2, k1, h1, h2⟩
    dsimp only at e1 e2 k1 h1 h2
    subst e1 e2
    show J_X0_rebuild_17 p (nI b) post K (nI b) (nI (4 * b + (min (F p).1 (4 * b + 4) - 4 * b))) g1
    unfold J_X0_rebuild_17
    refine s_blockEnd (z := (F p).1) (by rw [k1.2 _ (by simp)]; exact hq.1) hz (by omega) (pk_le (min (F p).1 (4 * b + 4)) (4 * b + (min (F p).1 (4 * b + 4) - 4 * b)) (fun _ => h _ ?_ ?_) (fun z => absurd z (by omega)))
    · exact kp_sS (kp_up k1 (fun _ z => z) (fun k hk => absurd hk (by simp))) (by simp)
    · refine ⟨?_, fun i hi => ?_, fun i hi => ?_, ?_, fun k hk => ?_, fun k hk hbk => ?_⟩
      · rw [sS_ne _ _ (by omega), k1.2 _ (by simp)]; exact hq.1
      · rw [sS_eq, bt_clr _ (by omega) hi, k1.2 _ (by simp), hq.2.1 i hi]
        by_cases e : i = b
        · rw [e, brkN_s, decide_eq_true rfl]; exact Bool.and_false _
        · rw [brkN_i e, decide_eq_false e]; exact Bool.and_true _
      · rw [sS_ne _ _ (by omega), k1.2 _ (by simp)]; exact hq.2.2.1 i hi
      · rw [sS_ne _ _ (by omega), k1.2 _ (by simp)]; exact hq.2.2.2.1
      · rw [sS_1, k1.1 _ (by simp <;> omega)]; exact hq.2.2.2.2.1 k hk
      · rw [sS_1]
        by_cases e : k / 4 = b
        · have := h2 (k - 4 * b) (by omega)
          rw [show 4 * b + (k - 4 * b) = k by omega] at this
          exact this
        · rw [brkN_i e] at hbk
          rw [h1 k e]
          exact hq.2.2.2.2.2 k hk hbk
theorem s_anyBroken {post : Int32 → St → Prop} (hq : CSq p F bk al en g) (h1 : (∃ i : Nat, i < 32 ∧ bk p i = true) → post 1 g) (h0 : (∀ i : Nat, i < 32 → bk p i = false) → post 0 g) : V_X0_anyBroken p g post := by
  unfold V_X0_anyBroken
  refine ⟨fun z => h0 (fun i hi => by rw [← hq.2.1 i hi]; exact bt_zero.mp z i hi), fun z => h1 ?_⟩
  by_cases e : ∃ i : Nat, i < 32 ∧ bk p i = true
  · exact e
  · exfalso
    refine z (bt_zero.mpr (fun i hi => ?_))
    rw [hq.2.1 i hi]
    cases hb : bk p i with
    | false => rfl
    | true => exact absurd ⟨i, hi, hb⟩ e
theorem s_isAsTaken {post : Int32 → St → Prop} (hq : CSq p F bk al en g) (hF : Fok F bk) (hp : p < 4) (h : post 1 g) : V_X0_isAsTaken p g post := by
  have hz := (hF p hp).1.1
  unfold V_X0_isAsTaken
  refine lp_for (F p).1 (fun k y => y = (nI k, g)) ?_ ?_ rfl
  · rintro K k _ hk rfl hK
    show J_X0_isAsTaken_2 p post K (nI k) g
    unfold J_X0_isAsTaken_2 J_X0_isAsTaken_35
    rw [hq.1]
    have e4 : nI k / 4 = nI (k / 4) := pk_div (a := k) (d := 4) (by omega) (by omega) (by omega)
    rw [e4]
    refine pk_le (F p).1 k (fun z => absurd z (by omega)) (fun _ => s_isBroken hq hF hp (by omega) ?_)
    cases hbk : bk p (k / 4) with
    | true => exact wp_f2 (by decide) (hK _ (by rw [nI_up]))
    | false =>
      refine wp_t2 rfl ⟨vp_in_nI (by omega) (by omega), ?_⟩
      rw [nI_clamp (by omega), hq.2.2.2.2.2 k hk hbk]
      unfold V_X0_wasTaken
      refine lp_for k (fun j y => y = (nI ((F p).2 k), nI j, g)) ?_ ?_ rfl
      · rintro K2 j _ hj rfl hK2
        show J_X0_wasTaken_2 p (nI ((F p).2 k)) _ K2 (nI ((F p).2 k)) (nI j) g
        unfold J_X0_wasTaken_2
        rw [hq.1]
        refine pk_le (F p).1 j (fun z => absurd z (by omega)) (fun _ => ⟨vp_in_nI (by omega) (by omega), ?_⟩)
        exact ⟨fun _ => hK2 _ (by rw [nI_up]), fun _ => wp_f2 (by decide) (hK _ (by rw [nI_up]))⟩
      · rintro K2 _ rfl
        show J_X0_wasTaken_2 p (nI ((F p).2 k)) _ K2 (nI ((F p).2 k)) (nI k) g
        unfold J_X0_wasTaken_2
        rw [hq.1, nI_clamp (by omega), hq.2.2.2.2.1 k hk]
        exact pk_le (F p).1 k (fun z => absurd z (by omega)) (fun _ => ⟨vp_in_nI (by omega) (by omega), wp_t2 rfl (wp_f2 (by decide) (hK _ (by rw [nI_up])))⟩)
  · rintro K _ rfl
    show J_X0_isAsTaken_2 p post K (nI (F p).1) g
    unfold J_X0_isAsTaken_2
    rw [hq.1]
    exact pk_le (F p).1 (F p).1 (fun _ => h) (fun z => absurd z (by omega))
theorem srt_mono {z : Nat} {f : Nat → Nat} (h : srt z f) {a b : Nat} (hab : a < b) (hb : b < z) : kyN (f a) < kyN (f b) := by
  induction b with
  | zero => omega
  | succ b ih =>
    have h1 := h b (by omega)
    by_cases e : a = b
    · rw [e]; exact h1
    · have := ih (by omega) (by omega)
      omega
theorem addN_end {k : Nat} {f f' : Nat → Nat} (hk : k < 60) (hf : ∀ j, j < k → f' j = f j) (hs : srt (k + 1) f) : (addN k f' (f k)).1 = k + 1 ∧ ∀ j, j < k + 1 → (addN k f' (f k)).2 j = f j := by
  have hp : posN f' (kyN (f k)) k = k := by
    cases k with
    | zero => rfl
    | succ k =>
      have : ¬ kyN (f (k + 1)) < kyN (f' k) := by
        rw [hf k (by omega)]
        have := srt_mono hs (a := k) (b := k + 1) (by omega) (by omega)
        omega
      exact if_neg this
  unfold addN
  rw [if_pos hk, hp]
  refine ⟨rfl, fun j hj => ?_⟩
  dsimp only
  unfold insN
  by_cases e : j < k
  · rw [if_pos e]; exact hf j e
  · have : j = k := by omega
    rw [if_neg e, if_pos this, this]
theorem s_writeTo {post : St → Prop} (hq : CSq p F bk al en g) (hF : Fok F bk) (hp : p < 4) (hs : srt (F p).1 (F p).2) (hno : ∀ i : Nat, i < 32 → bk p i = false)
    (h : ∀ g', kp [29 + 2 * p] [10 + p] g g' → CI p (F p).1 (F p).2 g' → post g') : V_X0_writeTo p g post := by
  obtain ⟨hz, hx⟩ := (hF p hp).1
  unfold V_X0_writeTo V_X2_clear
  refine lp_for (F p).1 (fun k y => y.1 = nI k ∧ kp [29 + 2 * p] [10 + p] g y.2 ∧ CI p k (F p).2 y.2) ?_ ?_ ⟨rfl, kp_sS kp_rf (by simp), sS_eq _ _ _, fun j hj => absurd hj (by omega)⟩
  · rintro K k ⟨y1, g1⟩ hk ⟨e1, k1, hI1⟩ hK
    dsimp only at e1 k1 hI1
    subst e1
    show J_X0_writeTo_6 p post K (nI k) g1
    unfold J_X0_writeTo_6 V_X6_turnOf V_X6_placeOf V_X6_unitOf
    have c1 : g1.2 (20 + p) = nI (F p).1 := (k1.2 _ (by simp <;> omega)).trans hq.1
    have a1 : g1.1 (37 + 4 * p) k = nI ((F p).2 k) := (congrFun (k1.1 _ (by simp <;> omega)) k).trans (hq.2.2.2.2.2 k hk (hno _ (by omega)))
    have hxk := hx k hk
    rw [c1, nI_clamp (by omega), a1, i_place hxk, i_turn hxk, i_unit hxk]
    have iv : vp_in (nI k) 60 := vp_in_nI (by omega) (by omega)
    have hm := Nat.mod_lt ((F p).2 k / 1000) (show 0 < 100 by omega)
    have hm2 := Nat.mod_lt ((F p).2 k) (show 0 < 1000 by omega)
    refine pk_le (F p).1 k (fun z => absurd z (by omega)) (fun _ => ⟨iv, iv, iv, ?_⟩)
    have hsk : srt (k + 1) (F p).2 := fun j hj => hs j (by omega)
    obtain ⟨d1, d2⟩ := addN_end (f' := (F p).2) (by omega) (fun _ _ => rfl) hsk
    refine s_add (x := (F p).2 k) (by omega) (by omega) (by omega) (by omega) hI1 ⟨by omega, fun j hj => hx j (by omega)⟩ (fun g2 k2 hI2 => hK _ ⟨nI_up k, kp_tr k1 k2, ?_⟩)
    rw [d1] at hI2
    exact ⟨hI2.1, fun j hj => by rw [hI2.2 j hj, d2 j hj]⟩
  · rintro K ⟨y1, g1⟩ ⟨e1, k1, hI1⟩
    dsimp only at e1 k1 hI1
    subst e1
    show J_X0_writeTo_6 p post K (nI (F p).1) g1
    have c1 : g1.2 (20 + p) = nI (F p).1 := (k1.2 _ (by simp <;> omega)).trans hq.1
    unfold J_X0_writeTo_6
    rw [c1]
    exact pk_le (F p).1 (F p).1 (fun _ => h g1 k1 hI1) (fun z => absurd z (by omega))
end CW
