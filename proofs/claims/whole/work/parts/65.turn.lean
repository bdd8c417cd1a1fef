/-! PART 65: a turn, on both sides -/
/-- where the units are behind k turns -/
def posH (n : Nat) (ow kk : Nat → Nat) (sd : Int32) (s0 : Nat → Nat) (D : Nat → Nat → Nat → Nat) : Nat → Nat → Nat
  | 0 => s0
  | k + 1 => stepN n ow kk sd (D k 1) (stepN n ow kk sd (D k 0) (posH n ow kk sd s0 D k))
theorem posH_cong {n : Nat} {ow kk : Nat → Nat} {sd : Int32} {s0 : Nat → Nat} {D D' : Nat → Nat → Nat → Nat} : ∀ {t : Nat}, (∀ i, i < t → D i = D' i) → posH n ow kk sd s0 D t = posH n ow kk sd s0 D' t := by
  intro t
  induction t with
  | zero => intro _; rfl
  | succ t ih =>
    intro h
    unfold posH
    rw [h t (by omega), ih (fun i hi => h i (by omega))]
theorem posH_ok {n : Nat} {ow kk : Nat → Nat} {sd : Int32} {s0 : Nat → Nat} {D : Nat → Nat → Nat → Nat} (hn : n ≤ 24) (h0 : Cok n s0) : ∀ t, Cok n (posH n ow kk sd s0 D t) := by
  intro t
  induction t with
  | zero => exact h0
  | succ t ih => exact stepN_ok hn (stepN_ok hn ih)
/-- the orders of all turns, and how many each unit has now -/
def COall (D : Nat → Nat → Nat → Nat) (m : Nat → Nat) (g : St) : Prop := (∀ t u k, t ≤ 99 → u < 24 → k < 2 → g.1 22 (spN t u k) = iI 8 (D t k u)) ∧ ∀ u : Nat, u < 24 → g.1 23 u = nI (m u)
def MOall (D : Nat → Nat → Nat → Nat) (m : Nat → Nat) (t : Nat) (g : St) : Prop := ∀ u : Nat, u < 24 → g.1 4 u = nI (m u) ∧ (0 < m u → g.1 5 u = nI (D t 0 u)) ∧ (1 < m u → g.1 6 u = nI (D t 1 u))
/-- what orders there can be -/
def Dok (D : Nat → Nat → Nat → Nat) (m : Nat → Nat) (n t : Nat) : Prop := (∀ u : Nat, u < 24 → m u ≤ 2 ∧ (n ≤ u → m u = 0) ∧ ∀ k : Nat, k < 2 → (k < m u ↔ D t k u < 8)) ∧ ∀ i k u, t < i → i ≤ 99 → k < 2 → u < 24 → D i k u = 8
theorem p4 {p : Nat} (h : p < 4) : 29 + 2 * p ∈ [27, 29, 31, 33, 35] ∧ 10 + p ∈ [10, 11, 12, 13] := by
  rcases (show p = 0 ∨ p = 1 ∨ p = 2 ∨ p = 3 by omega) with rfl | rfl | rfl | rfl <;> exact ⟨by decide, by decide⟩
section TU
variable {n t : Nat} {sd : Int32} {ow kk c : Nat → Nat} {tr : Nat → Nat → Bool} {J : Nat → Nat × (Nat → Nat)} {D : Nat → Nat → Nat → Nat} {m : Nat → Nat} {g g' : St}
theorem s_turnSights {r : Int32} {post : Int32 → St → Prop} {px : String → St → Prop} (hs : CUs 0 sd n ow kk g) (hc : CUc 0 n c g) (hC : ∀ u, u < n → c u ≤ 64) (ht : t < 100) (hd : g.2 1 = nI t) (htr : CT tr g) (hI : CXI J g) (hb : ∀ p : Nat, p < 4 → Ibd (J p).1 (J p).2) (hky : ∀ p : Nat, p < 4 → ∀ k, k < (J p).1 → kyN ((J p).2 k) < t * 1000)
    (h : ∀ g', kp [27, 29, 31, 33, 35] [10, 11, 12, 13] g g' → CXI (sg2 n sd ow kk c t tr J) g' → post r g') : lpP (fun K54 (z : Int32 × Int32 × St) => J_X6_turn_54 post px K54 z.1 z.2.1 z.2.2) (r, 0, g) := by
  have h24 := hs.2.1
  have hb1 : ∀ p : Nat, p < 4 → Ibd (sg1 n sd ow kk c t J p).1 (sg1 n sd ow kk c t J p).2 := fun p hp => wtF_bd ht h24 (fun u _ hs => (sgtN_lt hs).1) (hb p hp) (Nat.le_refl _)
  have keep : ∀ g1, kp [27, 29, 31, 33, 35] [10, 11, 12, 13] g g1 → CUs 0 sd n ow kk g1 ∧ CUc 0 n c g1 ∧ g1.2 1 = nI t ∧ CT tr g1 := fun g1 k1 => ⟨CUs_kp hs k1 (by simp) (by simp) (by simp) (by simp), CUc_kp hc k1 (by simp), (k1.2 1 (by simp)).trans hd, CT_kp htr k1 (by simp)⟩
  refine lp_for 4 (fun p y => y.1 = r ∧ y.2.1 = nI p ∧ kp [27, 29, 31, 33, 35] [10, 11, 12, 13] g y.2.2 ∧ CXI (mixJ (sg1 n sd ow kk c t J) J p) y.2.2 ∧ ∀ q, q < p → COw n (sgtN n sd ow kk c q) q y.2.2) ?_ ?_ ?_
  · rintro K p ⟨y1, y2, g1⟩ hp ⟨e1, e2, k1, hM1, hO1⟩ hK
    dsimp only at e1 e2 k1 hM1 hO1
    subst e1 e2
    show J_X6_turn_54 post px K y1 (nI p) g1
    obtain ⟨s1, s2, s3, s4⟩ := keep g1 k1
    have hIp : CI p (J p).1 (J p).2 g1 := by
      have := hM1 p hp
      have e : mixJ (sg1 n sd ow kk c t J) J p p = J p := if_neg (by omega)
      rw [e] at this
      exact this
    unfold J_X6_turn_54
    refine pk_le 4 p (fun z => absurd z (by omega)) (fun _ => s_watch s1 s2 hC ht s3 hp hIp (hb p hp) (hky p hp) (fun g2 k2 hI2 hO2 hO3 => hK _ ⟨rfl, nI_up p, kp_tr k1 (kp_up k2 ?_ ?_), ?_, ?_⟩))
    · intro k hk
      rcases List.mem_cons.mp hk with e | e
      · rw [e]; exact (p4 hp).1
      · have := List.mem_singleton.mp e
        rw [this]; decide
    · intro k hk
      have := List.mem_singleton.mp hk
      rw [this]; exact (p4 hp).2
    · intro q hq
      show CI q (mixJ (sg1 n sd ow kk c t J) J (p + 1) q).1 (mixJ (sg1 n sd ow kk c t J) J (p + 1) q).2 g2
      by_cases e : q = p
      · have e9 : mixJ (sg1 n sd ow kk c t J) J (p + 1) q = sg1 n sd ow kk c t J p := by rw [e]; exact if_pos (by omega)
        rw [e9, e]
        exact hI2
      · have e9 : mixJ (sg1 n sd ow kk c t J) J (p + 1) q = mixJ (sg1 n sd ow kk c t J) J p q := by
          unfold mixJ
          by_cases e2 : q < p
          · rw [if_pos e2, if_pos (by omega)]
          · rw [if_neg e2, if_neg (by omega)]
        rw [e9]
        exact CI_kp (hM1 q hq) k2 (by simp <;> omega) (by simp <;> omega)
    · intro q hq
      by_cases e : q = p
      · rw [e]; exact hO2
      · intro i hi
        show bt (g2.1 27 q) i = _
        rw [hO3 q e]
        exact hO1 q (by omega) i hi
  · rintro K ⟨y1, y2, g1⟩ ⟨e1, e2, k1, hM1, hO1⟩
    dsimp only at e1 e2 k1 hM1 hO1
    subst e1 e2
    show J_X6_turn_54 post px K y1 (nI 4) g1
    unfold J_X6_turn_54
    refine pk_le 4 4 (fun _ => ?_) (fun z => absurd z (by omega))
    have hM1 : CXI (sg1 n sd ow kk c t J) g1 := fun q hq => by
      have := hM1 q hq
      have e : mixJ (sg1 n sd ow kk c t J) J 4 q = sg1 n sd ow kk c t J q := if_pos hq
      rw [e] at this
      exact this
    refine lp_for 4 (fun p y => y.1 = y1 ∧ y.2.1 = nI p ∧ kp [27, 29, 31, 33, 35] [10, 11, 12, 13] g y.2.2 ∧ CXI (mixJ (sg2 n sd ow kk c t tr J) (sg1 n sd ow kk c t J) p) y.2.2 ∧ ∀ q : Nat, q < 4 → COw n (sgtN n sd ow kk c q) q y.2.2) ?_ ?_ ?_
    · rintro K2 p ⟨y3, y2, g2⟩ hp ⟨e1, e2, k2, hM2, hO2⟩ hK2
      dsimp only at e1 e2 k2 hM2 hO2
      subst e1 e2
      show J_X6_turn_72 post px K2 y3 (nI p) g2
      obtain ⟨s1, s2, s3, s4⟩ := keep g2 k2
      have hIp : CI p (sg1 n sd ow kk c t J p).1 (sg1 n sd ow kk c t J p).2 g2 := by
        have := hM2 p hp
        have e : mixJ (sg2 n sd ow kk c t tr J) (sg1 n sd ow kk c t J) p p = sg1 n sd ow kk c t J p := if_neg (by omega)
        rw [e] at this
        exact this
      unfold J_X6_turn_72
      refine pk_le 4 p (fun z => absurd z (by omega)) (fun _ => s_hearAll s1 s2 ht s3 hp s4 hIp (hb1 p hp) hO2 (fun g3 k3 hI3 => hK2 _ ⟨rfl, nI_up p, kp_tr k2 (kp_up k3 ?_ ?_), ?_, ?_⟩))
      · intro k hk
        have := List.mem_singleton.mp hk
        rw [this]; exact (p4 hp).1
      · intro k hk
        have := List.mem_singleton.mp hk
        rw [this]; exact (p4 hp).2
      · intro q hq
        show CI q (mixJ (sg2 n sd ow kk c t tr J) (sg1 n sd ow kk c t J) (p + 1) q).1 (mixJ (sg2 n sd ow kk c t tr J) (sg1 n sd ow kk c t J) (p + 1) q).2 g3
        by_cases e : q = p
        · have e9 : mixJ (sg2 n sd ow kk c t tr J) (sg1 n sd ow kk c t J) (p + 1) q = sg2 n sd ow kk c t tr J p := by rw [e]; exact if_pos (by omega)
          rw [e9, e]
          exact hI3
        · have e9 : mixJ (sg2 n sd ow kk c t tr J) (sg1 n sd ow kk c t J) (p + 1) q = mixJ (sg2 n sd ow kk c t tr J) (sg1 n sd ow kk c t J) p q := by
            unfold mixJ
            by_cases e2 : q < p
            · rw [if_pos e2, if_pos (by omega)]
            · rw [if_neg e2, if_neg (by omega)]
          rw [e9]
          exact CI_kp (hM2 q hq) k3 (by simp <;> omega) (by simp <;> omega)
      · intro q hq i hi
        show bt (g3.1 27 q) i = _
        rw [k3.1 27 (by simp <;> omega)]
        exact hO2 q hq i hi
    · rintro K2 ⟨y3, y2, g2⟩ ⟨e1, e2, k2, hM2, hO2⟩
      dsimp only at e1 e2 k2 hM2 hO2
      subst e1 e2
      show J_X6_turn_72 post px K2 y3 (nI 4) g2
      unfold J_X6_turn_72
      refine pk_le 4 4 (fun _ => h g2 k2 (fun q hq => ?_)) (fun z => absurd z (by omega))
      have := hM2 q hq
      have e : mixJ (sg2 n sd ow kk c t tr J) (sg1 n sd ow kk c t J) 4 q = sg2 n sd ow kk c t tr J q := if_pos hq
      rw [e] at this
      exact this
    · refine ⟨rfl, rfl, k1, ?_, hO1⟩
      rw [mixJ_0]
      exact hM1
  · refine ⟨rfl, rfl, kp_rf, ?_, fun q hq => absurd hq (by omega)⟩
    rw [mixJ_0]
    exact hI
theorem s_turn {post : Int32 → St → Prop} {px : String → St → Prop} (hs : CUs 0 sd n ow kk g) (hc : CUc 0 n c g) (hC : Cok n c) (ht : t < 99) (hd : g.2 1 = nI t) (hO : COall D m g) (htr : CT tr g) (hI : CXI J g) (hb : ∀ p : Nat, p < 4 → Ibd (J p).1 (J p).2) (hky : ∀ p : Nat, p < 4 → ∀ k, k < (J p).1 → kyN ((J p).2 k) < (t + 1) * 1000)
    (h : ∀ mm g', kp [8, 9, 10, 23, 27, 29, 31, 33, 35] [1, 10, 11, 12, 13] g g' → g'.2 1 = nI (t + 1) → CUc 0 n (stepN n ow kk sd (D t 1) (stepN n ow kk sd (D t 0) c)) g' → (∀ u : Nat, u < 24 → g'.1 23 u = nI 0) → CXI (sg2 n sd ow kk (stepN n ow kk sd (D t 1) (stepN n ow kk sd (D t 0) c)) (t + 1) tr J) g' → mm + livN n (stepN n ow kk sd (D t 1) (stepN n ow kk sd (D t 0) c)) = livN n c → post (nI mm) g') : V_X6_turn g post px := by
  have h24 := hs.2.1
  unfold V_X6_turn
  rw [hd]
  refine pk_lt t 99 (fun _ => ?_) (fun z => absurd z (by omega))
  refine s_playTurn (by decide) (by omega) hs hc hC (fun u hu => hO.1 t u 0 (by omega) (by omega) (by decide)) (fun u hu => hO.1 t u 1 (by omega) (by omega) (by decide)) (fun mm g1 k1 hc1 hm => ?_)
  have hC1 : Cok n (stepN n ow kk sd (D t 1) (stepN n ow kk sd (D t 0) c)) := stepN_ok h24 (stepN_ok h24 hC)
  generalize stepN n ow kk sd (D t 1) (stepN n ow kk sd (D t 0) c) = c' at h hc1 hm hC1
  unfold V_X4_startTurn
  refine s_fill (by decide) ?_
  have e1 : g1.2 1 = nI t := (k1.2 1 (by simp)).trans hd
  rw [e1, nI_up]
  have k2 : kp [8, 9, 10, 23] [1] g (sA (sS g1 1 (nI (t + 1))) 23 (s_fillF 24 0 ((sS g1 1 (nI (t + 1))).1 23))) := kp_sA (kp_sS (kp_up k1 (fun k hk => by simp at hk ⊢; omega) (fun k hk => absurd hk (by simp))) (by simp)) (by simp)
  have q1 : (sA (sS g1 1 (nI (t + 1))) 23 (s_fillF 24 0 ((sS g1 1 (nI (t + 1))).1 23))).2 1 = nI (t + 1) := sS_eq g1 1 (nI (t + 1))
  have q2 : CUc 0 n c' (sA (sS g1 1 (nI (t + 1))) 23 (s_fillF 24 0 ((sS g1 1 (nI (t + 1))).1 23))) := fun u hu => by
    rw [sA_ne _ _ (by decide)]
    exact hc1 u hu
  have q3 : ∀ u : Nat, u < 24 → (sA (sS g1 1 (nI (t + 1))) 23 (s_fillF 24 0 ((sS g1 1 (nI (t + 1))).1 23))).1 23 u = nI 0 := fun u hu => by
    rw [sA_eq]
    exact if_pos hu
  generalize sA (sS g1 1 (nI (t + 1))) 23 (s_fillF 24 0 ((sS g1 1 (nI (t + 1))).1 23)) = g2 at k2 q1 q2 q3
  have hs2 : CUs 0 sd n ow kk g2 := CUs_kp hs k2 (by simp) (by simp) (by simp) (by simp)
  have hI2 : CXI J g2 := fun p hp => CI_kp (hI p hp) k2 (by simp <;> omega) (by simp <;> omega)
  refine s_turnSights hs2 q2 hC1.1 (by omega) q1 (CT_kp htr k2 (by simp)) hI2 hb hky (fun g3 k3 hI3 => h mm g3 (kp_tr (kp_up k2 (fun k hk => by simp at hk ⊢; omega) (fun k hk => by simp at hk ⊢; omega)) (kp_up k3 (fun k hk => by simp at hk ⊢; omega) (fun k hk => by simp at hk ⊢; omega))) ((k3.2 1 (by simp)).trans q1) (CUc_kp q2 k3 (by simp)) (fun u hu => by rw [k3.1 23 (by simp)]; exact q3 u hu) hI3 hm)
theorem r_no1 {x2 : Int32} {post : Int32 → St → Prop} (h : post 0 (sS g 0 0)) : V_X7_no 1 x2 g post := by
  unfold V_X7_no J_X7_no_10
  exact wp_f (by decide) (wp_f2 (by decide) h)
theorem r_no0 {x2 : Int32} {post : Int32 → St → Prop} (h : post 1 (sS g 0 x2)) : V_X7_no 0 x2 g post := by
  unfold V_X7_no J_X7_no_10
  exact wp_t rfl (wp_t2 rfl h)
theorem r_living {post : Int32 → St → Prop} (hs : MUs sd n ow kk g) (hc : MUc n c g) (h : post (nI (livN n c)) g) : V_X7_living g post := by
  have h24 := hs.2.2.1
  unfold V_X7_living
  refine lp_for n (fun k z => z = (nI (livN k c), nI k, g)) ?_ ?_ rfl
  · rintro K k _ hk rfl hK
    show J_X7_living_4 post K (nI (livN k c)) (nI k) g
    unfold J_X7_living_4 J_X7_living_28
    rw [hs.2.1, nI_clamp (by omega), hc k hk]
    refine pk_le n k (fun z => absurd z (by omega)) (fun _ => ⟨vp_in_nI (by omega) (by decide), ?_⟩)
    have es : livN (k + 1) c = livN k c + (if decide (c k < 64) = true then 1 else 0) := rfl
    by_cases hl : c k < 64
    · refine wp_f2 (by rw [iI_in hl]; exact nI_m1 (by omega)) (hK _ ?_)
      rw [es, if_pos (decide_eq_true hl), nI_up, nI_up]
    · refine wp_t2 (iI_out (by omega)) (hK _ ?_)
      rw [es, if_neg (by simpa using hl), nI_up, show nI (livN k c) + 0 = nI (livN k c) from Int32.add_zero _]
      rfl
  · rintro K _ rfl
    show J_X7_living_4 post K (nI (livN n c)) (nI n) g
    unfold J_X7_living_4
    rw [hs.2.1]
    exact pk_le n n (fun _ => h) (fun z => absurd z (by omega))
theorem MOd_of {k : Nat} (hO : MOall D m t g) (hD : Dok D m n t) (h24 : n ≤ 24) (hk : k < 2) : MOd n k (D t k) g := fun u hu => by
  obtain ⟨a1, a2, a3⟩ := hO u (by omega)
  obtain ⟨b1, b2, b3⟩ := hD.1 u (by omega)
  refine ⟨m u, b1, a1, b3 k hk, fun z => ?_⟩
  by_cases e : k = 0
  · subst e; rw [if_pos rfl]; exact a2 z
  · have : k = 1 := by omega
    subst this
    rw [if_neg (by decide)]; exact a3 z
theorem r_turn {post : Int32 → St → Prop} (hs : MUs sd n ow kk g) (hc : MUc n c g) (hC : Cok n c) (ht : t < 99) (hd : g.2 3 = nI t) (hO : MOall D m t g) (hD : Dok D m n t) (htr : MT tr g) (hself : ∀ p : Nat, p < 4 → tr p p = false) (hI : MXI J g) (hb : ∀ p : Nat, p < 4 → Ibd (J p).1 (J p).2)
    (h : ∀ g', kp [2, 3, 4, 9, 10] [0, 3] g g' → g'.2 0 = 0 → g'.2 3 = nI (t + 1) → MUc n (stepN n ow kk sd (D t 1) (stepN n ow kk sd (D t 0) c)) g' → (∀ u : Nat, u < 24 → g'.1 4 u = nI 0) → MXI (sg2 n sd ow kk (stepN n ow kk sd (D t 1) (stepN n ow kk sd (D t 0) c)) (t + 1) tr J) g' → post (nI (livN n c) - nI (livN n (stepN n ow kk sd (D t 1) (stepN n ow kk sd (D t 0) c)))) g') : V_X7_turn g post := by
  have h24 := hs.2.2.1
  have go : J_X7_turn_15 post 1 g := by
    unfold J_X7_turn_15
    refine r_no1 (wp_t rfl ?_)
    have k0 : kp [] [0] g (sS g 0 0) := kp_sS kp_rf (by simp)
    have z0 : (sS g 0 0).2 0 = 0 := sS_eq _ _ _
    generalize sS g 0 0 = g0 at k0 z0
    have hs0 : MUs sd n ow kk g0 := MUs_kp hs k0 (by simp) (by simp) (by simp) (by simp)
    have hc0 : MUc n c g0 := MUc_kp hc k0 (by simp)
    refine r_living hs0 hc0 ?_
    have hO0 : MOall D m t g0 := fun u hu => by rw [k0.1 4 (by simp), k0.1 5 (by simp), k0.1 6 (by simp)]; exact hO u hu
    refine r_step (k := 0) (by decide) hs0 hc0 hC (MOd_of hO0 hD h24 (by decide)) (fun g1 k1 hc1 => ?_)
    have hs1 : MUs sd n ow kk g1 := MUs_23 hs0 k1
    have hO1 : MOall D m t g1 := fun u hu => by rw [k1.1 4 (by simp), k1.1 5 (by simp), k1.1 6 (by simp)]; exact hO0 u hu
    refine r_step (k := 1) (by decide) hs1 hc1 (stepN_ok h24 hC) (MOd_of hO1 hD h24 (by decide)) (fun g2 k2 hc2 => ?_)
    have hC2 : Cok n (stepN n ow kk sd (D t 1) (stepN n ow kk sd (D t 0) c)) := stepN_ok h24 (stepN_ok h24 hC)
    generalize stepN n ow kk sd (D t 1) (stepN n ow kk sd (D t 0) c) = c' at h hc2 hC2
    have k12 := kp_tr k1 k2
    have e3 : g2.2 3 = nI t := by rw [k12.2 3 (by simp), k0.2 3 (by simp)]; exact hd
    rw [e3, nI_up]
    have hs2 : MUs sd n ow kk g2 := MUs_23 hs1 k2
    refine lp_for n (fun k y => y.1 = nI (livN n c) ∧ y.2.1 = nI k ∧ kp [4] [3] g2 y.2.2 ∧ y.2.2.2 3 = nI (t + 1) ∧ ∀ u : Nat, u < 24 → (u < k ∨ n ≤ u) → y.2.2.1 4 u = nI 0) ?_ ?_ ?_
    · rintro K k ⟨y1, y2, g3⟩ hk ⟨e1, e2, k3, q3, q4⟩ hK
      dsimp only at e1 e2 k3 q3 q4
      subst e1 e2
      show J_X7_turn_51 post K (nI (livN n c)) (nI k) g3
      unfold J_X7_turn_51
      have en : g3.2 2 = nI n := (k3.2 2 (by simp)).trans hs2.2.1
      rw [en, nI_clamp (by omega)]
      refine pk_le n k (fun z => absurd z (by omega)) (fun _ => ⟨vp_in_nI (by omega) (by decide), hK _ ⟨rfl, nI_up k, kp_sA k3 (by simp), q3, fun u hu hor => ?_⟩⟩)
      show (sA g3 4 _).1 4 u = _
      rw [sA_eq]
      unfold upd
      by_cases e : u = k
      · rw [if_pos e]; rfl
      · rw [if_neg e]; exact q4 u hu (by omega)
    · rintro K ⟨y1, y2, g3⟩ ⟨e1, e2, k3, q3, q4⟩
      dsimp only at e1 e2 k3 q3 q4
      subst e1 e2
      show J_X7_turn_51 post K (nI (livN n c)) (nI n) g3
      have hs3 : MUs sd n ow kk g3 := MUs_kp hs2 k3 (by simp) (by simp) (by simp) (by simp)
      have hc3 : MUc n c' g3 := MUc_kp hc2 k3 (by simp)
      have kk3 : kp [2, 3, 4] [0, 3] g g3 := kp_tr (kp_up k0 (fun k hk => absurd hk (by simp)) (fun k hk => by simp at hk ⊢; omega)) (kp_tr (kp_up k12 (fun k hk => by simp at hk ⊢; omega) (fun k hk => absurd hk (by simp))) (kp_up k3 (fun k hk => by simp at hk ⊢; omega) (fun k hk => by simp at hk ⊢; omega)))
      have htr3 : MT tr g3 := MT_kp htr kk3 (by simp)
      have hI3 : MXI J g3 := fun p hp => MI_kp (hI p hp) kk3 (by simp) (by simp)
      have z3 : g3.2 0 = 0 := by rw [k3.2 0 (by simp), k12.2 0 (by simp)]; exact z0
      unfold J_X7_turn_51
      rw [hs3.2.1]
      refine pk_le n n (fun _ => r_sights hs3 hc3 hC2.1 (by omega) q3 htr3 hself hI3 hb (fun g4 k4 hI4 => ?_)) (fun z => absurd z (by omega))
      have hs4 : MUs sd n ow kk g4 := MUs_kp hs3 k4 (by simp) (by simp) (by simp) (by simp)
      have hc4 : MUc n c' g4 := MUc_kp hc3 k4 (by simp)
      exact r_living hs4 hc4 (h g4 (kp_tr (kp_up kk3 (fun k hk => by simp at hk ⊢; omega) (fun k hk => hk)) (kp_up k4 (fun k hk => by simp at hk ⊢; omega) (fun k hk => absurd hk (by simp)))) ((k4.2 0 (by simp)).trans z3) ((k4.2 3 (by simp)).trans q3) hc4 (fun u hu => by rw [k4.1 4 (by simp)]; exact q4 u hu (by omega)) hI4)
    · refine ⟨rfl, rfl, kp_sS kp_rf (by simp), sS_eq _ _ _, fun u hu hor => ?_⟩
      show g2.1 4 u = nI 0
      have hn : n ≤ u := by omega
      rw [k12.1 4 (by simp), k0.1 4 (by simp), (hO u hu).1, (hD.1 u hu).2.1 hn]
  unfold V_X7_turn
  rw [hd]
  exact pk_le 99 t (fun z => absurd z (by omega)) (fun _ => go)
end TU
