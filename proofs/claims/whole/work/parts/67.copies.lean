/-! PART 67: the class's saves -/
/-- the number at a place of a save; 0, if there is none -/
def nuN (X : Nat × (Nat → Nat)) (k : Nat) : Nat := if k < X.1 then X.2 k else 0
def axF (F : Nat → Nat × (Nat → Nat)) (al : Nat → Bool) (k : Nat) : Nat → Int32
  | 0 => 0
  | q + 1 => if al q then axF F al k q ^^^ nI (nuN (F q) k) else axF F al k q
def CSq (p : Nat) (F : Nat → Nat × (Nat → Nat)) (bk al en : Nat → Nat → Bool) (g : St) : Prop :=
  g.2 (20 + p) = nI (F p).1 ∧ (∀ i : Nat, i < 32 → bt (g.2 (24 + p)) i = bk p i) ∧ (∀ i : Nat, i < 32 → bt (g.2 (28 + p)) i = (decide (i < 4) && al p i)) ∧ (g.2 (32 + p) = 0 ↔ ∀ q : Nat, q < 4 → al p q = true → en p q = false) ∧ (∀ k, k < (F p).1 → g.1 (39 + 4 * p) k = nI ((F p).2 k)) ∧ (∀ k, k < (F p).1 → bk p (k / 4) = false → g.1 (37 + 4 * p) k = nI ((F p).2 k))
def CPa (p : Nat) (F : Nat → Nat × (Nat → Nat)) (al : Nat → Nat → Bool) (g : St) : Prop := ∀ k : Nat, k < 60 → g.1 (38 + 4 * p) k = nI (nuN (F p) k) ^^^ axF F (al p) k 4
def CSv (F : Nat → Nat × (Nat → Nat)) (bk al en : Nat → Nat → Bool) (g : St) : Prop := ∀ p : Nat, p < 4 → CSq p F bk al en g ∧ CPa p F al g
def Fok (F : Nat → Nat × (Nat → Nat)) (bk : Nat → Nat → Bool) : Prop := ∀ p : Nat, p < 4 → Ibd (F p).1 (F p).2 ∧ ∀ i, (F p).1 ≤ 4 * i → bk p i = false
theorem bN_0 {b : Bool} : nI (bN b) = 0 ↔ b = false := by cases b <;> decide
section CV
variable {p : Nat} {F : Nat → Nat × (Nat → Nat)} {bk al en : Nat → Nat → Bool} {g g' : St}
theorem CSq_kp {ks ss : List Nat} (h : CSq p F bk al en g) (hk : kp ks ss g g') (h1 : 37 + 4 * p ∉ ks) (h2 : 39 + 4 * p ∉ ks) (h3 : 20 + p ∉ ss) (h4 : 24 + p ∉ ss) (h5 : 28 + p ∉ ss) (h6 : 32 + p ∉ ss) : CSq p F bk al en g' := by
  unfold CSq
  rw [hk.1 _ h1, hk.1 _ h2, hk.2 _ h3, hk.2 _ h4, hk.2 _ h5, hk.2 _ h6]
  exact h
theorem CPa_kp {ks ss : List Nat} (h : CPa p F al g) (hk : kp ks ss g g') (h1 : 38 + 4 * p ∉ ks) : CPa p F al g' := by
  unfold CPa
  rw [hk.1 _ h1]
  exact h
theorem CSv_kp {ks ss : List Nat} (h : CSv F bk al en g) (hk : kp ks ss g g') (h1 : ∀ k, k ∈ ks → k < 37 ∨ 52 < k) (h2 : ∀ k, k ∈ ss → k < 20 ∨ 36 < k) : CSv F bk al en g' := fun p hp => by
  have a : ∀ k, 37 ≤ k → k ≤ 52 → k ∉ ks := fun k x y z => by have := h1 k z; omega
  have b : ∀ k, 20 ≤ k → k ≤ 36 → k ∉ ss := fun k x y z => by have := h2 k z; omega
  exact ⟨CSq_kp (h p hp).1 hk (a _ (by omega) (by omega)) (a _ (by omega) (by omega)) (b _ (by omega) (by omega)) (b _ (by omega) (by omega)) (b _ (by omega) (by omega)) (b _ (by omega) (by omega)), CPa_kp (h p hp).2 hk (a _ (by omega) (by omega))⟩
theorem s_blockCount {z : Nat} {post : Int32 → St → Prop} (hs : g.2 (20 + p) = nI z) (hz : z ≤ 60) (h : post (nI ((z + 3) / 4)) g) : V_X0_blockCount p g post := by
  unfold V_X0_blockCount
  rw [hs]
  have e : (nI z + 4 - 1) / 4 = nI ((z + 3) / 4) := by
    show (nI z + nI 4 - nI 1) / nI 4 = _
    rw [nI_add, pk_sub (by omega), pk_div (by omega) (by omega) (by omega)]
    rfl
  rw [e]
  exact h
theorem s_isBroken {b : Nat} {post : Int32 → St → Prop} (hq : CSq p F bk al en g) (hF : Fok F bk) (hp : p < 4) (hb : b < 32) (h : post (nI (bN (bk p b))) g) : V_X0_isBroken p (nI b) g post := by
  have hz := (hF p hp).1.1
  unfold V_X0_isBroken
  refine wp_f (nI_pos (by omega)) (s_blockCount hq.1 hz (pk_le (((F p).1 + 3) / 4) b (fun z => ?_) (fun z => ?_)))
  · rw [(hF p hp).2 b (by omega)] at h; exact h
  · have e := hq.2.1 b hb
    cases hbk : bk p b with
    | false => rw [hbk] at h e; exact wp_t ((bt_tst _ hb).mpr e) h
    | true => rw [hbk] at h e; exact wp_f (fun z => by have := (bt_tst _ hb).mp z; rw [e] at this; cases this) h
theorem s_isAlly {q : Nat} {post : Int32 → St → Prop} (hb : ∀ i : Nat, i < 32 → bt (g.2 (28 + p)) i = (decide (i < 4) && al p i)) (hq4 : q < 4) (h : post (nI (bN (al p q))) g) : V_X0_isAlly p (nI q) g post := by
  unfold V_X0_isAlly
  have e : bt (g.2 (28 + p)) q = al p q := by rw [hb q (by omega), decide_eq_true hq4, Bool.true_and]
  cases hal : al p q with
  | false => rw [hal] at h e; exact wp_t ((bt_tst _ (by omega)).mpr e) h
  | true => rw [hal] at h e; exact wp_f (fun z => by have := (bt_tst _ (by omega)).mp z; rw [e] at this; cases this) h
theorem s_numberAt {k : Nat} {post : Int32 → St → Prop} (hq : CSq p F bk al en g) (hz : (F p).1 ≤ 60) (hk : k < 60) (hb : bk p (k / 4) = false) (h : post (nI (nuN (F p) k)) g) : V_X0_numberAt p (nI k) g post := by
  unfold V_X0_numberAt
  rw [hq.1, nI_clamp (by omega)]
  unfold nuN at h
  refine wp_f (nI_pos (by omega)) (pk_le (F p).1 k (fun z => ?_) (fun z => ⟨vp_in_nI hk (by omega), ?_⟩))
  · rw [if_neg (by omega)] at h; exact h
  · rw [if_pos z] at h
    rw [hq.2.2.2.2.2 k z hb]
    exact h
theorem s_alliesAt {k : Nat} {post : Int32 → St → Prop} (hall : ∀ q : Nat, q < 4 → CSq q F bk al en g) (hz : ∀ q : Nat, q < 4 → (F q).1 ≤ 60) (hp : p < 4) (hk : k < 60) (hno : ∀ q : Nat, q < 4 → al p q = true → bk q (k / 4) = false) (h : post (axF F (al p) k 4) g) : V_X0_alliesAt p (nI k) g post := by
  unfold V_X0_alliesAt
  refine lp_for 4 (fun q y => y = (nI k, axF F (al p) k q, nI q, g)) ?_ ?_ rfl
  · rintro K q _ hq rfl hK
    show J_X0_alliesAt_5 p (nI k) post K (nI k) (axF F (al p) k q) (nI q) g
    unfold J_X0_alliesAt_5 J_X0_alliesAt_31
    refine pk_le 4 q (fun z => absurd z (by omega)) (fun _ => s_isAlly (hall p hp).2.2.1 hq ?_)
    cases hal : al p q with
    | false =>
      refine wp_t rfl (hK _ ?_)
      rw [nI_up]
      have e : axF F (al p) k (q + 1) = axF F (al p) k q := if_neg (by rw [hal]; decide)
      rw [e]
    | true =>
      refine wp_f (by decide) ⟨vp_in_nI hq (by omega), ?_⟩
      rw [nI_clamp (by omega)]
      refine s_numberAt (hall q hq) (hz q hq) hk (hno q hq hal) (hK _ ?_)
      rw [nI_up]
      have e : axF F (al p) k (q + 1) = axF F (al p) k q ^^^ nI (nuN (F q) k) := if_pos hal
      rw [e]
  · rintro K _ rfl
    show J_X0_alliesAt_5 p (nI k) post K (nI k) (axF F (al p) k 4) (nI 4) g
    unfold J_X0_alliesAt_5
    exact pk_le 4 4 (fun _ => h) (fun z => absurd z (by omega))
theorem s_keepParity {post : St → Prop} (hall : ∀ q : Nat, q < 4 → CSq q F (fun _ _ => false) al en g) (hz : ∀ q : Nat, q < 4 → (F q).1 ≤ 60) (hp : p < 4) (h : ∀ g', kp [38 + 4 * p] [] g g' → CPa p F al g' → post g') : V_X0_keepParity p g post := by
  unfold V_X0_keepParity
  refine lp_for 60 (fun k y => y.1 = nI k ∧ kp [38 + 4 * p] [] g y.2 ∧ ∀ j, j < k → y.2.1 (38 + 4 * p) j = nI (nuN (F p) j) ^^^ axF F (al p) j 4) ?_ ?_ ⟨rfl, kp_rf, fun j hj => absurd hj (by omega)⟩
  · rintro K k ⟨y1, g1⟩ hk ⟨e1, k1, h1⟩ hK
    dsimp only at e1 k1 h1
    subst e1
    show J_X0_keepParity_2 p post K (nI k) g1
    unfold J_X0_keepParity_2
    have hall1 : ∀ q : Nat, q < 4 → CSq q F (fun _ _ => false) al en g1 := fun q hq => CSq_kp (hall q hq) k1 (by simp <;> omega) (by simp <;> omega) (by simp) (by simp) (by simp) (by simp)
    refine pk_le 60 k (fun z => absurd z (by omega)) (fun _ => s_numberAt (hall1 p hp) (hz p hp) hk rfl (s_alliesAt hall1 hz hp hk (fun _ _ _ => rfl) ⟨vp_in_nI hk (by omega), hK _ ⟨nI_up k, kp_sA k1 (by simp), fun j hj => ?_⟩⟩))
    show (sA g1 (38 + 4 * p) _).1 (38 + 4 * p) j = _
    rw [sA_eq, nI_clamp (by omega)]
    unfold upd
    by_cases e : j = k
    · rw [if_pos e, e]
    · rw [if_neg e]; exact h1 j (by omega)
  · rintro K ⟨y1, g1⟩ ⟨e1, k1, h1⟩
    dsimp only at e1 k1 h1
    subst e1
    show J_X0_keepParity_2 p post K (nI 60) g1
    unfold J_X0_keepParity_2
    exact pk_le 60 60 (fun _ => h g1 k1 h1) (fun z => absurd z (by omega))
theorem s_take {tr : Nat → Nat → Bool} {x : Int32} {post : St → Prop} (hp : p < 4) (hI : CI p (F p).1 (F p).2 g) (hb : Ibd (F p).1 (F p).2) (hx : ∀ i : Nat, i < 32 → bt x i = (decide (i < 4) && tr p i))
    (h : ∀ g', kp [37 + 4 * p, 39 + 4 * p] [20 + p, 24 + p, 28 + p, 32 + p] g g' → CSq p F (fun _ _ => false) tr (fun _ _ => false) g' → post g') : V_X0_take p x g post := by
  have hz := hb.1
  unfold V_X0_take
  rw [hI.1]
  have e0 : (if (60 : Int32) < nI (F p).1 then 60 else nI (F p).1) = nI (F p).1 := if_neg (nI_nlt (a := 60) hz (by omega))
  rw [e0]
  refine lp_for (F p).1 (fun k y => y.1 = x ∧ y.2.1 = nI k ∧ kp [37 + 4 * p, 39 + 4 * p] [20 + p] g y.2.2 ∧ y.2.2.2 (20 + p) = nI (F p).1 ∧ (∀ j, j < k → y.2.2.1 (37 + 4 * p) j = nI ((F p).2 j)) ∧ ∀ j, j < k → y.2.2.1 (39 + 4 * p) j = nI ((F p).2 j)) ?_ ?_ ⟨rfl, rfl, kp_sS kp_rf (by simp), sS_eq _ _ _, fun j hj => absurd hj (by omega), fun j hj => absurd hj (by omega)⟩
  · rintro K k ⟨y1, y2, g1⟩ hk ⟨e1, e2, k1, c1, h1, h2⟩ hK
    dsimp only at e1 e2 k1 c1 h1 h2
    subst e1 e2
    show J_X0_take_15 p y1 post K y1 (nI k) g1
    have hI1 : CI p (F p).1 (F p).2 g1 := CI_kp hI k1 (by simp <;> omega) (by simp <;> omega)
    unfold J_X0_take_15
    rw [c1]
    refine pk_le (F p).1 k (fun z => absurd z (by omega)) (fun _ => s_ixAt hI1 hb hk ⟨vp_in_nI (by omega) (by omega), ?_⟩)
    rw [nI_clamp (by omega)]
    have hI2 : CI p (F p).1 (F p).2 (sA g1 (37 + 4 * p) (upd (g1.1 (37 + 4 * p)) k (nI ((F p).2 k)))) := ⟨hI1.1, fun j hj => by rw [sA_ne _ _ (by omega)]; exact hI1.2 j hj⟩
    refine s_ixAt hI2 hb hk ⟨vp_in_nI (by omega) (by omega), hK _ ⟨rfl, nI_up k, kp_sA (kp_sA k1 (by simp)) (by simp), c1, fun j hj => ?_, fun j hj => ?_⟩⟩
    · show (sA (sA g1 (37 + 4 * p) _) (39 + 4 * p) _).1 (37 + 4 * p) j = _
      rw [sA_ne _ _ (by omega), sA_eq]
      unfold upd
      by_cases e : j = k
      · rw [if_pos e, e]
      · rw [if_neg e]; exact h1 j (by omega)
    · show (sA (sA g1 (37 + 4 * p) _) (39 + 4 * p) _).1 (39 + 4 * p) j = _
      rw [sA_eq, sA_ne _ _ (by omega)]
      unfold upd
      by_cases e : j = k
      · rw [if_pos e, e]
      · rw [if_neg e]; exact h2 j (by omega)
  · rintro K ⟨y1, y2, g1⟩ ⟨e1, e2, k1, c1, h1, h2⟩
    dsimp only at e1 e2 k1 c1 h1 h2
    subst e1 e2
    show J_X0_take_15 p y1 post K y1 (nI (F p).1) g1
    unfold J_X0_take_15
    rw [c1]
    refine pk_le (F p).1 (F p).1 (fun _ => h _ ?_ ?_) (fun z => absurd z (by omega))
    · exact kp_sS (kp_sS (kp_sS (kp_up k1 (fun _ z => z) (fun k hk => by have := List.mem_singleton.mp hk; rw [this]; simp)) (by simp)) (by simp)) (by simp)
    · refine ⟨?_, fun i hi => ?_, fun i hi => ?_, ?_, h2, fun k hk _ => h1 k hk⟩
      · rw [sS_ne _ _ (by omega), sS_ne _ _ (by omega), sS_ne _ _ (by omega)]; exact c1
      · rw [sS_ne _ _ (by omega), sS_ne _ _ (by omega), sS_eq, b_0]
      · rw [sS_ne _ _ (by omega), sS_eq]; exact hx i hi
      · rw [sS_eq]; exact ⟨fun _ _ _ _ => rfl, fun _ => rfl⟩
end CV
