/-! PART 63: the reference's sights -/
section RS
variable {n t : Nat} {sd : Int32} {ow kk c : Nat → Nat} {tr : Nat → Nat → Bool} {J : Nat → Nat × (Nat → Nat)} {g g' : St}
theorem MUc_kp {ks ss : List Nat} (h : MUc n c g) (hk : kp ks ss g g') (h1 : 2 ∉ ks) : MUc n c g' := fun u hu => by rw [hk.1 2 h1]; exact h u hu
theorem MT_kp {ks ss : List Nat} (h : MT tr g) (hk : kp ks ss g g') (h1 : 8 ∉ ks) : MT tr g' := fun p q hp hq => by rw [hk.1 8 h1]; exact h p q hp hq
theorem updJ_s {J : Nat → Nat × (Nat → Nat)} {p : Nat} {X : Nat × (Nat → Nat)} : (fun q => if q = p then X else J q) p = X := if_pos rfl
/-- one unit is added, if it is sighted -/
theorem r_sgStep {p u : Nat} {S : Nat → Bool} {J0 : Nat × (Nat → Nat)} {K : St → Prop} {g1 : St} (ht : t < 100) (hp : p < 4) (h24 : n ≤ 24) (hu : u < n) (hl : S u = true → c u < 64) (ht1 : g1.2 3 = nI t) (hc1 : MUc n c g1)
    (hb : Ibd (wtF S (numN t c) u J0).1 (wtF S (numN t c) u J0).2) (hM : MI p (wtF S (numN t c) u J0).1 (wtF S (numN t c) u J0).2 g1) (hs : S u = true)
    (h : ∀ g2, kx p g1 g2 → MI p (wtF S (numN t c) (u + 1) J0).1 (wtF S (numN t c) (u + 1) J0).2 g2 → K g2) : V_X7_numberOf (nI u) g1 (fun r g3 => V_X7_adds (nI p) r g3 (fun g5 => K g5)) := by
  refine r_numberOf ht1 h24 hc1 hu (hl hs) ?_
  refine r_adds hp (numN_bd (by omega) (hl hs) (by omega)) hM hb (fun g2 a b => h g2 a ?_)
  have e : wtF S (numN t c) (u + 1) J0 = addsN (wtF S (numN t c) u J0).1 (wtF S (numN t c) u J0).2 (numN t c u) := if_pos hs
  rw [e]
  exact b
theorem wtF_no {S : Nat → Bool} {num : Nat → Nat} {u : Nat} {J0 : Nat × (Nat → Nat)} (hs : S u = false) : wtF S num (u + 1) J0 = wtF S num u J0 := if_neg (by rw [hs]; decide)
theorem wtF_bd {S : Nat → Bool} {J0 : Nat × (Nat → Nat)} (ht : t < 100) (h24 : n ≤ 24) (hS : ∀ u, u < n → S u = true → c u < 64) (hb : Ibd J0.1 J0.2) {k : Nat} (hk : k ≤ n) : Ibd (wtF S (numN t c) k J0).1 (wtF S (numN t c) k J0).2 :=
  wtF_all (P := fun x => x < 10000000) hb.1 hb.2 (fun i hi hs => numN_bd (by omega) (hS i (by omega) hs) (by omega))
theorem hrF_bd {T : Nat → Bool} {S : Nat → Nat → Bool} {J0 : Nat × (Nat → Nat)} (ht : t < 100) (h24 : n ≤ 24) (hS : ∀ q u, u < n → S q u = true → c u < 64) (hb : Ibd J0.1 J0.2) {q : Nat} : Ibd (hrF T S (numN t c) n q J0).1 (hrF T S (numN t c) n q J0).2 :=
  hrF_all (P := fun x => x < 10000000) hb.1 hb.2 (fun j _ i hi hs => numN_bd (by omega) (hS j i hi hs) (by omega))
/-- the indexes while the player p adds: those ahead of p are done -/
def mixJ (A B : Nat → Nat × (Nat → Nat)) (p : Nat) : Nat → Nat × (Nat → Nat) := fun q => if q < p then A q else B q
theorem mixJ_0 {A B : Nat → Nat × (Nat → Nat)} : mixJ A B 0 = B := funext fun q => if_neg (Nat.not_lt_zero q)
theorem mixJ_bd {A B : Nat → Nat × (Nat → Nat)} {p : Nat} (hA : ∀ q : Nat, q < 4 → Ibd (A q).1 (A q).2) (hB : ∀ q : Nat, q < 4 → Ibd (B q).1 (B q).2) : ∀ q : Nat, q < 4 → Ibd (mixJ A B p q).1 (mixJ A B p q).2 := fun q hq => by
  unfold mixJ
  split
  · exact hA q hq
  · exact hB q hq
theorem MXI_mix {A B : Nat → Nat × (Nat → Nat)} {p : Nat} (h : MXI (mixJ A B p) g) (hA : ∀ q : Nat, q < 4 → Ibd (A q).1 (A q).2) (hB : ∀ q : Nat, q < 4 → Ibd (B q).1 (B q).2) (hk : kx p g g') (hp : MI p (A p).1 (A p).2 g') : MXI (mixJ A B (p + 1)) g' := by
  refine MXI_kx h (fun q hq => (mixJ_bd hA hB q hq).1) hk ?_ (fun q _ e => ?_)
  · have e : mixJ A B (p + 1) p = A p := if_pos (by omega)
    rw [e]; exact hp
  · unfold mixJ
    by_cases e2 : q < p
    · rw [if_pos e2, if_pos (by omega)]
    · rw [if_neg e2, if_neg (by omega)]
theorem r_sights {post : St → Prop} (hs : MUs sd n ow kk g) (hc : MUc n c g) (hC : ∀ u, u < n → c u ≤ 64) (ht : t < 100) (hd : g.2 3 = nI t) (htr : MT tr g) (hself : ∀ p : Nat, p < 4 → tr p p = false) (hI : MXI J g) (hb : ∀ p : Nat, p < 4 → Ibd (J p).1 (J p).2)
    (h : ∀ g', kp [9, 10] [] g g' → MXI (sg2 n sd ow kk c t tr J) g' → post g') : V_X7_sights g post := by
  have h24 := hs.2.2.1
  have hb1 : ∀ p : Nat, p < 4 → Ibd (sg1 n sd ow kk c t J p).1 (sg1 n sd ow kk c t J p).2 := fun p hp => wtF_bd ht h24 (fun u _ hs => (sgtN_lt hs).1) (hb p hp) (Nat.le_refl _)
  have hb2 : ∀ p : Nat, p < 4 → Ibd (sg2 n sd ow kk c t tr J p).1 (sg2 n sd ow kk c t tr J p).2 := fun p hp => hrF_bd ht h24 (fun q u _ hs => (hrS_lt hs).1) (hb1 p hp)
  -- what stays
  have keep : ∀ g1, kp [9, 10] [] g g1 → MUs sd n ow kk g1 ∧ MUc n c g1 ∧ g1.2 3 = nI t ∧ MT tr g1 := fun g1 k1 => ⟨MUs_kp hs k1 (by simp) (by simp) (by simp) (by simp), MUc_kp hc k1 (by simp), (k1.2 3 (by simp)).trans hd, MT_kp htr k1 (by simp)⟩
  unfold V_X7_sights
  refine lp_for 4 (fun p y => y.1 = nI p ∧ kp [9, 10] [] g y.2 ∧ MXI (mixJ (sg1 n sd ow kk c t J) J p) y.2) ?_ ?_ ?_
  · rintro K p ⟨y1, g1⟩ hp ⟨e1, k1, hM1⟩ hK
    dsimp only at e1 k1 hM1
    subst e1
    show J_X7_sights_2 post K (nI p) g1
    unfold J_X7_sights_2
    refine pk_le 4 p (fun z => absurd z (by omega)) (fun _ => ?_)
    refine lp_for n (fun u y => y.1 = nI p ∧ y.2.1 = nI u ∧ kx p g1 y.2.2 ∧ MI p (wtF (sgtN n sd ow kk c p) (numN t c) u (J p)).1 (wtF (sgtN n sd ow kk c p) (numN t c) u (J p)).2 y.2.2) ?_ ?_ ?_
    · rintro K2 u ⟨y1, y2, g2⟩ hu ⟨e1, e2, k2, hM2⟩ hK2
      dsimp only at e1 e2 k2 hM2
      subst e1 e2
      show J_X7_sights_9 post K K2 (nI p) (nI u) g2
      obtain ⟨s1, s2, s3, s4⟩ := keep g2 (kp_tr k1 k2.1)
      unfold J_X7_sights_9 J_X7_sights_36
      rw [s1.2.1]
      refine pk_le n u (fun z => absurd z (by omega)) (fun _ => r_isSighted s1 s2 hC hp hu ?_)
      cases hsg : sgtN n sd ow kk c p u with
      | false =>
        refine wp_t rfl (hK2 _ ⟨rfl, nI_up u, k2, ?_⟩)
        rw [wtF_no hsg]; exact hM2
      | true =>
        refine wp_f (by decide) ?_
        exact r_sgStep (K := fun g5 => K2 (nI p, nI u + 1, g5)) ht hp h24 hu (fun hs => (sgtN_lt hs).1) s3 s2 (wtF_bd ht h24 (fun u _ hs => (sgtN_lt hs).1) (hb p hp) (by omega)) hM2 hsg (fun g3 a b => hK2 _ ⟨rfl, nI_up u, kx_tr k2 a, b⟩)
    · rintro K2 ⟨y1, y2, g2⟩ ⟨e1, e2, k2, hM2⟩
      dsimp only at e1 e2 k2 hM2
      subst e1 e2
      show J_X7_sights_9 post K K2 (nI p) (nI n) g2
      obtain ⟨s1, s2, s3, s4⟩ := keep g2 (kp_tr k1 k2.1)
      unfold J_X7_sights_9
      rw [s1.2.1]
      exact pk_le n n (fun _ => hK _ ⟨nI_up p, kp_tr k1 k2.1, MXI_mix hM1 hb1 hb k2 hM2⟩) (fun z => absurd z (by omega))
    · refine ⟨rfl, rfl, kx_rf, ?_⟩
      have := hM1 p hp
      have e : mixJ (sg1 n sd ow kk c t J) J p p = J p := if_neg (by omega)
      rw [e] at this
      exact this
  · rintro K ⟨y1, g1⟩ ⟨e1, k1, hM1⟩
    dsimp only at e1 k1 hM1
    subst e1
    show J_X7_sights_2 post K (nI 4) g1
    unfold J_X7_sights_2
    refine pk_le 4 4 (fun _ => ?_) (fun z => absurd z (by omega))
    have hM1 : MXI (sg1 n sd ow kk c t J) g1 := fun q hq => by
      have := hM1 q hq
      have e : mixJ (sg1 n sd ow kk c t J) J 4 q = sg1 n sd ow kk c t J q := if_pos hq
      rw [e] at this
      exact this
    refine lp_for 4 (fun p y => y.1 = nI p ∧ kp [9, 10] [] g y.2 ∧ MXI (mixJ (sg2 n sd ow kk c t tr J) (sg1 n sd ow kk c t J) p) y.2) ?_ ?_ ?_
    · rintro K3 p ⟨y1, g2⟩ hp ⟨e1, k2, hM2⟩ hK3
      dsimp only at e1 k2 hM2
      subst e1
      show J_X7_sights_50 post K3 (nI p) g2
      unfold J_X7_sights_50
      refine pk_le 4 p (fun z => absurd z (by omega)) (fun _ => ?_)
      refine lp_for 4 (fun q y => y.1 = nI p ∧ y.2.1 = nI q ∧ kx p g2 y.2.2 ∧ MI p (hrF (tr p) (hrS n sd ow kk c p) (numN t c) n q (sg1 n sd ow kk c t J p)).1 (hrF (tr p) (hrS n sd ow kk c p) (numN t c) n q (sg1 n sd ow kk c t J p)).2 y.2.2) ?_ ?_ ?_
      · rintro K4 q ⟨y1, y2, g3⟩ hq ⟨e1, e2, k3, hM3⟩ hK4
        dsimp only at e1 e2 k3 hM3
        subst e1 e2
        show J_X7_sights_57 post K3 K4 (nI p) (nI q) g3
        obtain ⟨s1, s2, s3, s4⟩ := keep g3 (kp_tr k2 k3.1)
        have skip : tr p q = false → J_X7_sights_128 post K3 K4 (nI p) (nI q) g3 := fun hno => by
          unfold J_X7_sights_128
          refine hK4 _ ⟨rfl, nI_up q, k3, ?_⟩
          have e : hrF (tr p) (hrS n sd ow kk c p) (numN t c) n (q + 1) (sg1 n sd ow kk c t J p) = hrF (tr p) (hrS n sd ow kk c p) (numN t c) n q (sg1 n sd ow kk c t J p) := if_neg (by rw [hno]; decide)
          rw [e]; exact hM3
        unfold J_X7_sights_57
        have e4 : (4 : Int32) * nI p + nI q = nI (4 * p + q) := by
          show nI 4 * nI p + nI q = _
          rw [pk_mul, nI_add]
        rw [e4, nI_clamp (by omega), s4 p q hp hq]
        refine pk_le 4 q (fun z => absurd z (by omega)) (fun _ => pk_eq q p (fun e => skip (by rw [e]; exact hself p hp)) (fun e => ⟨vp_in_nI (by omega) (by decide), ?_⟩))
        cases htq : tr p q with
        | false => exact wp_t2 rfl (skip htq)
        | true =>
          refine wp_f2 (by decide) ?_
          have hbq : Ibd (hrF (tr p) (hrS n sd ow kk c p) (numN t c) n q (sg1 n sd ow kk c t J p)).1 (hrF (tr p) (hrS n sd ow kk c p) (numN t c) n q (sg1 n sd ow kk c t J p)).2 := hrF_bd ht h24 (fun q u _ hs => (hrS_lt hs).1) (hb1 p hp)
          have ehr : hrF (tr p) (hrS n sd ow kk c p) (numN t c) n (q + 1) (sg1 n sd ow kk c t J p) = wtF (hrS n sd ow kk c p q) (numN t c) n (hrF (tr p) (hrS n sd ow kk c p) (numN t c) n q (sg1 n sd ow kk c t J p)) := if_pos htq
          rw [ehr] at hK4
          generalize hrF (tr p) (hrS n sd ow kk c p) (numN t c) n q (sg1 n sd ow kk c t J p) = J3 at hM3 hbq hK4
          refine lp_for n (fun u y => y.1 = nI p ∧ y.2.1 = nI q ∧ y.2.2.1 = nI u ∧ kx p g2 y.2.2.2 ∧ MI p (wtF (hrS n sd ow kk c p q) (numN t c) u J3).1 (wtF (hrS n sd ow kk c p q) (numN t c) u J3).2 y.2.2.2) ?_ ?_ ?_
          · rintro K5 u ⟨y1, y2, y3, g4⟩ hu ⟨e1, e2, e3, k4, hM4⟩ hK5
            dsimp only at e1 e2 e3 k4 hM4
            subst e1 e2 e3
            show J_X7_sights_85 post K3 K4 K5 (nI p) (nI q) (nI u) g4
            obtain ⟨s1, s2, s3, s4⟩ := keep g4 (kp_tr k2 k4.1)
            obtain ⟨o1, o2, -, -⟩ := s1.2.2.2 u hu
            unfold J_X7_sights_85 J_X7_sights_122
            rw [s1.2.1, nI_clamp (by omega), o1]
            have no : hrS n sd ow kk c p q u = false → K5 (nI p, nI q, nI u + 1, g4) := fun hf => hK5 _ ⟨rfl, rfl, nI_up u, k4, by rw [wtF_no hf]; exact hM4⟩
            refine pk_le n u (fun z => absurd z (by omega)) (fun _ => ⟨vp_in_nI (by omega) (by decide), pk_eq (ow u) p (fun e => no ?_) (fun e => r_isSighted s1 s2 hC hq hu ?_)⟩)
            · unfold hrS; rw [decide_eq_false (fun z => z e), Bool.false_and]
            · have eh : hrS n sd ow kk c p q u = sgtN n sd ow kk c q u := by unfold hrS; rw [decide_eq_true e, Bool.true_and]
              cases hsg : sgtN n sd ow kk c q u with
              | false => exact wp_t rfl (no (by rw [eh]; exact hsg))
              | true =>
                refine wp_f (by decide) ?_
                exact r_sgStep (K := fun g5 => K5 (nI p, nI q, nI u + 1, g5)) ht hp h24 hu (fun hs => (hrS_lt hs).1) s3 s2 (wtF_bd ht h24 (fun u _ hs => (hrS_lt hs).1) hbq (by omega)) hM4 (by rw [eh]; exact hsg) (fun g5 a b => hK5 _ ⟨rfl, rfl, nI_up u, kx_tr k4 a, b⟩)
          · rintro K5 ⟨y1, y2, y3, g4⟩ ⟨e1, e2, e3, k4, hM4⟩
            dsimp only at e1 e2 e3 k4 hM4
            subst e1 e2 e3
            show J_X7_sights_85 post K3 K4 K5 (nI p) (nI q) (nI n) g4
            obtain ⟨s1, s2, s3, s4⟩ := keep g4 (kp_tr k2 k4.1)
            unfold J_X7_sights_85 J_X7_sights_128
            rw [s1.2.1]
            exact pk_le n n (fun _ => hK4 _ ⟨rfl, nI_up q, k4, hM4⟩) (fun z => absurd z (by omega))
          · exact ⟨rfl, rfl, rfl, k3, hM3⟩
      · rintro K4 ⟨y1, y2, g3⟩ ⟨e1, e2, k3, hM3⟩
        dsimp only at e1 e2 k3 hM3
        subst e1 e2
        show J_X7_sights_57 post K3 K4 (nI p) (nI 4) g3
        unfold J_X7_sights_57
        exact pk_le 4 4 (fun _ => hK3 _ ⟨nI_up p, kp_tr k2 k3.1, MXI_mix hM2 hb2 hb1 k3 hM3⟩) (fun z => absurd z (by omega))
      · refine ⟨rfl, rfl, kx_rf, ?_⟩
        have := hM2 p hp
        have e : mixJ (sg2 n sd ow kk c t tr J) (sg1 n sd ow kk c t J) p p = sg1 n sd ow kk c t J p := if_neg (by omega)
        rw [e] at this
        exact this
    · rintro K3 ⟨y1, g2⟩ ⟨e1, k2, hM2⟩
      dsimp only at e1 k2 hM2
      subst e1
      show J_X7_sights_50 post K3 (nI 4) g2
      unfold J_X7_sights_50
      refine pk_le 4 4 (fun _ => h g2 k2 (fun q hq => ?_)) (fun z => absurd z (by omega))
      have := hM2 q hq
      have e : mixJ (sg2 n sd ow kk c t tr J) (sg1 n sd ow kk c t J) 4 q = sg2 n sd ow kk c t tr J q := if_pos hq
      rw [e] at this
      exact this
    · refine ⟨rfl, k1, ?_⟩
      rw [mixJ_0]
      exact hM1
  · refine ⟨rfl, kp_rf, ?_⟩
    rw [mixJ_0]
    exact hI
end RS
