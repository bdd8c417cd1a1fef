/-! PART 56: the reference's step in numbers -/
def kcN (k : Nat) : Nat := match k with | 0 => 115 | 1 => 97 | _ => 116
def MUs (sd : Int32) (n : Nat) (ow kk : Nat → Nat) (g : St) : Prop := g.2 1 = sd ∧ g.2 2 = nI n ∧ n ≤ 24 ∧ ∀ u, u < n → g.1 1 u = nI (ow u) ∧ ow u < 4 ∧ g.1 7 u = nI (kcN (kk u)) ∧ kk u < 3
def MUc (n : Nat) (c : Nat → Nat) (g : St) : Prop := ∀ u, u < n → g.1 2 u = iI 64 (c u)
def MUw (n : Nat) (wt : Nat → Nat) (g : St) : Prop := ∀ u, u < n → g.1 3 u = iI 64 (wt u)
section MF
variable {n : Nat} {sd : Int32} {ow kk c wt c' wt' : Nat → Nat} {g g' : St}
theorem MUs_kp {ks ss : List Nat} (h : MUs sd n ow kk g) (hk : kp ks ss g g') (h1 : 1 ∉ ss) (h2 : 2 ∉ ss) (h3 : 1 ∉ ks) (h4 : 7 ∉ ks) : MUs sd n ow kk g' := by
  unfold MUs
  rw [hk.2 _ h1, hk.2 _ h2, hk.1 _ h3, hk.1 _ h4]
  exact h
theorem MUs_23 (h : MUs sd n ow kk g) (hk : kp [2, 3] [] g g') : MUs sd n ow kk g' := MUs_kp h hk (by simp) (by simp) (by simp) (by simp)
theorem MUc_cong (h : MUc n c g) (e : ∀ u, u < n → c u = c' u) : MUc n c' g := fun u hu => by rw [← e u hu]; exact h u hu
theorem MUw_cong (h : MUw n wt g) (e : ∀ u, u < n → wt u = wt' u) : MUw n wt' g := fun u hu => by rw [← e u hu]; exact h u hu
theorem MUc_3 {f : Nat → Int32} {k : Nat} (hk : 2 ≠ k) (h : MUc n c g) : MUc n c (sA g k f) := fun u hu => by rw [sA_ne _ _ hk]; exact h u hu
theorem MUw_2 {f : Nat → Int32} {k : Nat} (hk : 3 ≠ k) (h : MUw n wt g) : MUw n wt (sA g k f) := fun u hu => by rw [sA_ne _ _ hk]; exact h u hu
theorem MUc_up {v x : Nat} (h : MUc n c g) : MUc n (updN c v x) (sA g 2 (upd (g.1 2) v (iI 64 x))) := fun u hu => by
  rw [sA_eq]
  unfold upd updN
  by_cases e : u = v
  · rw [if_pos e, if_pos e]
  · rw [if_neg e, if_neg e]; exact h u hu
theorem MUw_up {v x : Nat} (h : MUw n wt g) : MUw n (updN wt v x) (sA g 3 (upd (g.1 3) v (iI 64 x))) := fun u hu => by
  rw [sA_eq]
  unfold upd updN
  by_cases e : u = v
  · rw [if_pos e, if_pos e]
  · rw [if_neg e, if_neg e]; exact h u hu
theorem r_power {u : Nat} {post : Int32 → St → Prop} (hs : MUs sd n ow kk g) (hu : u < n) (h : post (nI (pwN (kk u))) g) : V_X7_power (nI u) g post := by
  obtain ⟨-, -, h24, hU⟩ := hs
  obtain ⟨-, -, k1, k2⟩ := hU u hu
  unfold V_X7_power
  rw [nI_clamp (by omega), k1]
  generalize kk u = k at k2 h
  refine ⟨vp_in_nI (by omega) (by decide), ?_⟩
  match k, k2, h with
  | 0, _, h => exact wp_t2 rfl h
  | 1, _, h => exact wp_f2 (by decide) ⟨vp_in_nI (by omega) (by decide), wp_t2 rfl h⟩
  | 2, _, h => exact wp_f2 (by decide) ⟨vp_in_nI (by omega) (by decide), wp_f2 (by decide) h⟩
  | k + 3, z, _ => exact absurd z (by omega)
theorem r_lose {u : Nat} {post : St → Prop} (h24 : n ≤ 24) (hu : u < n) (hc : MUc n c g) (hw : MUw n wt g) (h : ∀ g', kp [2, 3] [] g g' → MUc n (updN c u 64) g' → MUw n (updN wt u 64) g' → post g') : V_X7_lose (nI u) g post := by
  unfold V_X7_lose
  refine ⟨vp_in_nI (by omega) (by decide), vp_in_nI (by omega) (by decide), ?_⟩
  rw [nI_clamp (by omega)]
  refine h _ (kp_sA (kp_sA kp_rf (by simp)) (by simp)) ?_ ?_
  · exact MUc_3 (by decide) (MUc_up (v := u) (x := 64) hc)
  · have h1 : MUw n wt (sA g 2 (upd (g.1 2) u (-1))) := MUw_2 (by decide) hw
    exact MUw_up (v := u) (x := 64) h1
theorem r_meets {u v : Nat} {post : St → Prop} (hs : MUs sd n ow kk g) (hc : MUc n c g) (hw : MUw n wt g) (hS : SI n c wt) (hu : u < n) (hv : v < n)
    (h1 : fcs ow c wt u v → ∀ g', kp [2, 3] [] g g' → MUc n (if pwN (kk u) = pwN (kk v) then c else updN c (if pwN (kk u) < pwN (kk v) then u else v) 64) g' → MUw n (if pwN (kk u) = pwN (kk v) then updN (updN wt u (c u)) v (c v) else updN wt (if pwN (kk u) < pwN (kk v) then u else v) 64) g' → post g')
    (h2 : ¬ fcs ow c wt u v → post g) : V_X7_meets (nI u) (nI v) g post := by
  have h24 := hs.2.2.1
  have iu : vp_in (nI u) 24 := vp_in_nI (by omega) (by decide)
  have iv : vp_in (nI v) 24 := vp_in_nI (by omega) (by decide)
  obtain ⟨a1, a2, a3⟩ := hS.1 u hu
  obtain ⟨b1, b2, b3⟩ := hS.1 v hv
  have no : ¬ fcs ow c wt u v → J_X7_meets_69 (nI u) (nI v) post (nI u) (nI v) g := fun hf => by
    unfold J_X7_meets_69 J_X7_meets_70
    exact wp_t rfl (h2 hf)
  unfold V_X7_meets
  rw [nI_clamp (by omega), nI_clamp (by omega), hc u hu, hc v hv, hw u hu, hw v hv]
  refine ⟨iu, ?_⟩
  by_cases e1 : c u < 64
  · refine wp_f (fun z => absurd ((iI_m1 (by decide)).mp z) (by omega)) ⟨iv, ?_⟩
    by_cases e2 : c v < 64
    · refine wp_f (fun z => absurd ((iI_m1 (by decide)).mp z) (by omega)) ⟨iu, iv, ?_⟩
      by_cases e3 : c u = c v
      · exact wp_t (by rw [e3]) (no (fun z => z.2.2.1 e3))
      · refine wp_f (fun z => e3 ((iI_inj (by decide) a1 b1).mp z)) ⟨iu, iv, ?_⟩
        by_cases e4 : wt u = c v
        · refine wp_t2 (by rw [e4]) ⟨iv, iu, ?_⟩
          by_cases e5 : wt v = c u
          · refine wp_t2 (by rw [e5]) ?_
            unfold J_X7_meets_70
            obtain ⟨o1, o2, -, -⟩ := hs.2.2.2 u hu
            obtain ⟨o3, o4, -, -⟩ := hs.2.2.2 v hv
            refine wp_f (by decide) ⟨iu, iv, ?_⟩
            rw [nI_clamp (by omega), nI_clamp (by omega), o1, o3]
            by_cases e6 : ow u = ow v
            · exact wp_t2 (by rw [e6]) (h2 (fun z => z.2.2.2.2.2 e6))
            · have h1 := h1 ⟨e1, e2, e3, e4, e5, e6⟩
              have p1 := pwN_le (kk u)
              have p2 := pwN_le (kk v)
              refine wp_f2 (fun z => e6 ((nI_eq (by omega) (by omega)).mp z)) (r_power hs hu (r_power hs hv ?_))
              by_cases e7 : pwN (kk u) = pwN (kk v)
              · rw [if_pos e7, if_pos e7] at h1
                refine wp_t2 (by rw [e7]) ⟨iu, iu, iv, iv, ?_⟩
                rw [sA_ne (k := 2) (j := 3) _ _ (by decide), hc u hu, hc v hv]
                exact h1 _ (kp_sA (kp_sA kp_rf (by simp)) (by simp)) (MUc_3 (by decide) (MUc_3 (by decide) hc)) (MUw_up (MUw_up hw))
              · rw [if_neg e7, if_neg e7] at h1
                refine wp_f2 (fun z => e7 ((nI_eq (by omega) (by omega)).mp z)) (r_power hs hu (r_power hs hv (pk_le (pwN (kk v)) (pwN (kk u)) (fun z => ?_) (fun z => ?_))))
                · rw [if_neg (by omega)] at h1
                  unfold J_X7_meets_150
                  exact r_lose h24 hv hc hw (fun g' x y z => h1 g' x y z)
                · rw [if_pos (by omega)] at h1
                  unfold J_X7_meets_150
                  exact r_lose h24 hu hc hw (fun g' x y z => h1 g' x y z)
          · exact wp_f2 (fun z => e5 ((iI_inj (by decide) b2 a1).mp z)) (no (fun z => e5 z.2.2.2.2.1))
        · exact wp_f2 (fun z => e4 ((iI_inj (by decide) a2 b1).mp z)) (no (fun z => e4 z.2.2.2.1))
    · exact wp_t (iI_out (by omega)) (no (fun z => e2 z.2.1))
  · exact wp_t (iI_out (by omega)) (no (fun z => e1 z.1))
theorem r_contested {post : Int32 → St → Prop} (hs : MUs sd n ow kk g) (hw : MUw n wt g) (h : post (iI 64 (cntd n wt)) g) : V_X7_contested g post := by
  unfold V_X7_contested
  have h24 := hs.2.2.1
  refine lp_for 64 (fun k z => z = (nI k, g) ∧ post (iI 64 (fNf (fun x => decide (1 < fb_ct (fun u => decide (wt u = x)) n)) (64 - k) k)) g) ?_ ?_ ⟨rfl, h⟩
  · rintro K k _ hk ⟨rfl, hp⟩ hK
    show J_X7_contested_2 post K (nI k) g
    unfold J_X7_contested_2
    rw [fNf_step _ hk] at hp
    refine pk_le 64 k (fun z => absurd z (by omega)) (fun _ => ?_)
    refine lp_for n (fun i z => z = (nI k, nI (fb_ct (fun u => decide (wt u = k)) i), nI i, g)) ?_ ?_ rfl
    · rintro K2 i _ hi rfl hK2
      show J_X7_contested_12 post K K2 (nI k) (nI _) (nI i) g
      unfold J_X7_contested_12 J_X7_contested_36
      rw [hs.2.1, nI_clamp (by omega), hw i hi]
      refine pk_le n i (fun z => absurd z (by omega)) (fun _ => ⟨vp_in_nI (by omega) (by decide), ?_⟩)
      by_cases e : wt i = k
      · refine wp_t2 (by rw [e, iI_in hk]) (hK2 _ ?_)
        rw [nI_up, nI_up, fb_ct_succ, if_pos (decide_eq_true e)]
      · refine wp_f2 (fun z => e ((iI_nI (by decide) hk).mp z)) (hK2 _ ?_)
        rw [nI_up, fb_ct_succ, if_neg (by simp [e]), show nI (fb_ct (fun u => decide (wt u = k)) i) + 0 = nI (fb_ct (fun u => decide (wt u = k)) i) from Int32.add_zero _]
        rfl
    · rintro K2 _ rfl
      show J_X7_contested_12 post K K2 (nI k) (nI _) (nI n) g
      unfold J_X7_contested_12
      rw [hs.2.1]
      have := fb_ct_le (fun u => decide (wt u = k)) n
      refine pk_le n n (fun _ => pk_le _ 1 (fun z => ?_) (fun z => ?_) rfl rfl (by omega)) (fun z => absurd z (by omega))
      · rw [if_neg (by simp <;> omega)] at hp
        exact hK _ ⟨by rw [nI_up], hp⟩
      · rw [if_pos (decide_eq_true (by omega)), iI_in hk] at hp
        exact hp
  · rintro K _ ⟨rfl, hp⟩
    show J_X7_contested_2 post K (nI 64) g
    unfold J_X7_contested_2
    rw [fNf_end, iI_out (Nat.le_refl _)] at hp
    exact pk_le 64 64 (fun _ => hp) (fun z => absurd z (by omega))
theorem r_powerAt {x p : Nat} {post : Int32 → St → Prop} (hs : MUs sd n ow kk g) (hw : MUw n wt g) (hx : x < 64) (hp4 : p < 4) (h : post (nI (powN n ow kk wt x p)) g) : V_X7_powerAt (nI p) (nI x) g post := by
  unfold V_X7_powerAt
  have h24 := hs.2.2.1
  refine lp_for n (fun k z => z = (nI p, nI x, nI (powN k ow kk wt x p), nI k, g)) ?_ ?_ rfl
  · rintro K k _ hk rfl hK
    show J_X7_powerAt_5 (nI p) (nI x) post K (nI p) (nI x) (nI _) (nI k) g
    obtain ⟨o1, o2, -, -⟩ := hs.2.2.2 k hk
    unfold J_X7_powerAt_5 J_X7_powerAt_46 J_X7_powerAt_47
    rw [hs.2.1, nI_clamp (by omega), hw k hk, o1]
    have skip : ¬ (wt k = x ∧ ow k = p) → K (nI p, nI x, nI (powN k ow kk wt x p) + 0, nI k + 1, g) := fun hne => hK _ (by
      rw [nI_up, show nI (powN k ow kk wt x p) + 0 = nI (powN k ow kk wt x p) from Int32.add_zero _]
      unfold powN
      rw [fb_sm_succ, if_neg hne]
      rfl)
    refine pk_le n k (fun z => absurd z (by omega)) (fun _ => ⟨vp_in_nI (by omega) (by decide), ?_⟩)
    by_cases e : wt k = x
    · refine wp_t2 (by rw [e, iI_in hx]) ⟨vp_in_nI (by omega) (by decide), ?_⟩
      by_cases eo : ow k = p
      · refine wp_t2 (by rw [eo]) (r_power hs hk (hK _ ?_))
        rw [nI_up, nI_add]
        unfold powN
        rw [fb_sm_succ, if_pos ⟨e, eo⟩]
      · exact wp_f2 (fun z => eo ((nI_eq (by omega) (by omega)).mp z)) (skip (fun z => eo z.2))
    · exact wp_f2 (fun z => e ((iI_nI (by decide) hx).mp z)) (skip (fun z => e z.1))
  · rintro K _ rfl
    show J_X7_powerAt_5 (nI p) (nI x) post K (nI p) (nI x) (nI _) (nI n) g
    unfold J_X7_powerAt_5
    rw [hs.2.1]
    exact pk_le n n (fun _ => h) (fun z => absurd z (by omega))
theorem r_strongest {x : Nat} {post : Int32 → St → Prop} (hs : MUs sd n ow kk g) (hw : MUw n wt g) (hx : x < 64) (h : post (iI 4 (strN (powN n ow kk wt x))) g) : V_X7_strongest (nI x) g post := by
  unfold V_X7_strongest
  have h24 := hs.2.2.1
  have hP : ∀ p, powN n ow kk wt x p < 1000 := fun p => by
    have : powN n ow kk wt x p ≤ n * 3 := by
      unfold powN
      exact fb_sm_bound (fun u _ => by
        split
        · exact (pwN_le _).2
        · omega)
    omega
  generalize hPe : powN n ow kk wt x = P at h hP
  have hrow : ∀ p : Nat, p < 4 → ∀ {post2 : Int32 → St → Prop}, post2 (nI (P p)) g → V_X7_powerAt (nI p) (nI x) g post2 := fun p hp post2 h2 => r_powerAt hs hw hx hp (by rw [hPe]; exact h2)
  refine lp_for 4 (fun k z => z = (nI x, nI k, g) ∧ post (iI 4 (fNf (fun p => decide (0 < P p) && decide (∀ q : Nat, q < 4 → q = p ∨ P q < P p)) (4 - k) k)) g) ?_ ?_ ⟨rfl, h⟩
  · rintro K k _ hk ⟨rfl, hp⟩ hK
    show J_X7_strongest_2 (nI x) post K (nI x) (nI k) g
    rw [fNf_step _ hk] at hp
    -- the inner loop over q, with the answer so far
    have inner : ∀ (b : Bool), b = decide (0 < P k) → J_X7_strongest_21 (nI x) post K (nI x) (nI k) (if b then 1 else 0) g := fun b hb => by
      unfold J_X7_strongest_21
      refine lp_for 4 (fun i z => z = (nI x, nI k, (if b = true ∧ ∀ q, q < i → q = k ∨ P q < P k then 1 else 0), nI i, g)) ?_ ?_ ?_
      · rintro K2 i _ hi rfl hK2
        show J_X7_strongest_25 (nI x) post K K2 (nI x) (nI k) _ (nI i) g
        unfold J_X7_strongest_25 J_X7_strongest_54 J_X7_strongest_59
        refine pk_le 4 i (fun z => absurd z (by omega)) (fun _ => pk_eq i k (fun e => hK2 _ ?_) (fun e => hrow k hk (hrow i hi (pk_le (P k) (P i) (fun z => hK2 _ ?_) (fun z => hK2 _ ?_) rfl rfl (by have := hP k; omega) (by have := hP i; omega)))))
        · rw [nI_up]
          have : (b = true ∧ ∀ q, q < i + 1 → q = k ∨ P q < P k) ↔ (b = true ∧ ∀ q, q < i → q = k ∨ P q < P k) := and_congr_right (fun _ => ⟨fun z q hq => z q (by omega), fun z q hq => by
            by_cases eq : q = i
            · exact Or.inl (eq.trans e)
            · exact z q (by omega)⟩)
          simp only [this]
          split <;> rfl
        · rw [nI_up, if_neg (c := b = true ∧ ∀ q, q < i + 1 → q = k ∨ P q < P k) (fun y => by
            rcases y.2 i (by omega) with y2 | y2
            · exact e y2
            · omega)]
          split <;> (dsimp only; first | rw [show (1 : Int32) &&& 0 = 0 from by decide] | rw [show (0 : Int32) &&& 0 = 0 from by decide])
        · rw [nI_up]
          have : (b = true ∧ ∀ q, q < i + 1 → q = k ∨ P q < P k) ↔ (b = true ∧ ∀ q, q < i → q = k ∨ P q < P k) := and_congr_right (fun _ => ⟨fun y q hq => y q (by omega), fun y q hq => by
            by_cases eq : q = i
            · exact Or.inr (by rw [eq]; omega)
            · exact y q (by omega)⟩)
          simp only [this]
          split <;> rfl
      · rintro K2 _ rfl
        show J_X7_strongest_25 (nI x) post K K2 (nI x) (nI k) _ (nI 4) g
        unfold J_X7_strongest_25
        refine pk_le 4 4 (fun _ => ?_) (fun z => absurd z (by omega))
        by_cases ha : b = true ∧ ∀ q : Nat, q < 4 → q = k ∨ P q < P k
        · rw [if_pos ha]
          rw [if_pos (by simp only [Bool.and_eq_true, decide_eq_true_eq]; exact ⟨of_decide_eq_true (hb ▸ ha.1), ha.2⟩), iI_in hk] at hp
          exact wp_f (show ¬ (1 : Int32) = 0 by decide) hp
        · rw [if_neg ha]
          rw [if_neg (by simp only [Bool.and_eq_true, decide_eq_true_eq]; exact fun y => ha ⟨by rw [hb]; exact decide_eq_true y.1, y.2⟩)] at hp
          exact wp_t rfl (hK _ ⟨by rw [nI_up], hp⟩)
      · have : (b = true ∧ ∀ q : Nat, q < 0 → q = k ∨ P q < P k) ↔ b = true := ⟨fun y => y.1, fun y => ⟨y, fun q hq => absurd hq (by omega)⟩⟩
        simp only [this]
        rfl
    unfold J_X7_strongest_2
    refine pk_le 4 k (fun z => absurd z (by omega)) (fun _ => hrow k hk (pk_le (P k) 0 (fun z => ?_) (fun z => ?_) rfl rfl (by have := hP k; omega)))
    · exact inner false (decide_eq_false (by omega)).symm
    · exact inner true (decide_eq_true (by omega)).symm
  · rintro K _ ⟨rfl, hp⟩
    show J_X7_strongest_2 (nI x) post K (nI x) (nI 4) g
    unfold J_X7_strongest_2
    rw [fNf_end, iI_out (Nat.le_refl _)] at hp
    exact pk_le 4 4 (fun _ => hp) (fun z => absurd z (by omega))
theorem r_back {x e : Nat} {y : Int32} {post : St → Prop} (hs : MUs sd n ow kk g) (hc : MUc n c g) (hw : MUw n wt g) (hx : x < 64)
    (h : ∀ g', kp [2, 3] [] g g' → MUc n c g' → MUw n (fun u => if wt u = x ∧ u ≠ e then c u else wt u) g' → post g') :
    lpP (fun K133 (z : Int32 × Int32 × Int32 × St) => J_X7_solves_133 y post K133 z.1 z.2.1 z.2.2.1 z.2.2.2) (nI x, iI n e, 0, g) := by
  have h24 := hs.2.2.1
  refine lp_for n (fun k z => z.1 = nI x ∧ z.2.1 = iI n e ∧ z.2.2.1 = nI k ∧ kp [2, 3] [] g z.2.2.2 ∧ MUc n c z.2.2.2 ∧ MUw n (fun u => if u < k ∧ wt u = x ∧ u ≠ e then c u else wt u) z.2.2.2) ?_ ?_ ?_
  · rintro K k ⟨z1, z2, z3, g1⟩ hk ⟨e1, e2, e3, hkp, hc1, hw1⟩ hK
    dsimp only at e1 e2 e3 hkp hc1 hw1
    subst e1 e2 e3
    show J_X7_solves_133 y post K (nI x) (iI n e) (nI k) g1
    have hs1 := MUs_23 hs hkp
    unfold J_X7_solves_133 J_X7_solves_174
    rw [hs1.2.1]
    refine pk_le n k (fun z => absurd z (by omega)) (fun _ => ⟨vp_in_nI (by omega) (by decide), ?_⟩)
    have hwk : g1.1 3 k = iI 64 (wt k) := by
      rw [hw1 k hk]
      show iI 64 (if k < k ∧ _ then _ else _) = _
      rw [if_neg (fun z => absurd z.1 (by omega))]
    rw [nI_clamp (by omega), hwk, hc1 k hk]
    have nxt : ∀ (hne : ¬ (wt k = x ∧ k ≠ e)), MUw n (fun u => if u < k + 1 ∧ wt u = x ∧ u ≠ e then c u else wt u) g1 := fun hne => MUw_cong hw1 (fun u hu => by
      by_cases eu : u = k
      · subst eu
        rw [if_neg (fun z => absurd z.1 (by omega)), if_neg (fun z => hne z.2)]
      · have : (u < k + 1) = (u < k) := propext ⟨fun z => by omega, fun z => by omega⟩
        simp only [this])
    by_cases ex : wt k = x
    · refine wp_t2 (by rw [ex, iI_in hx]) ?_
      by_cases ee : k = e
      · exact wp_t (by rw [← ee, iI_in hk]) (hK _ ⟨rfl, rfl, nI_up k, hkp, hc1, nxt (fun z => z.2 ee)⟩)
      · refine wp_f (fun z => ee ((iI_nI (by omega) hk).mp z.symm).symm) ⟨vp_in_nI (by omega) (by decide), vp_in_nI (by omega) (by decide), hK _ ⟨rfl, rfl, nI_up k, kp_sA hkp (by simp), MUc_3 (by decide) hc1, ?_⟩⟩
        exact MUw_cong (MUw_up hw1) (fun u hu => by
          unfold updN
          by_cases eu : u = k
          · subst eu
            rw [if_pos rfl, if_pos ⟨by omega, ex, ee⟩]
          · have : (u < k + 1) = (u < k) := propext ⟨fun z => by omega, fun z => by omega⟩
            rw [if_neg eu]; simp only [this])
    · exact wp_f2 (fun z => ex ((iI_nI (by decide) hx).mp z)) (hK _ ⟨rfl, rfl, nI_up k, hkp, hc1, nxt (fun z => ex z.1)⟩)
  · rintro K ⟨z1, z2, z3, g1⟩ ⟨e1, e2, e3, hkp, hc1, hw1⟩
    dsimp only at e1 e2 e3 hkp hc1 hw1
    subst e1 e2 e3
    show J_X7_solves_133 y post K (nI x) (iI n e) (nI n) g1
    have hs1 := MUs_23 hs hkp
    unfold J_X7_solves_133
    rw [hs1.2.1]
    refine pk_le n n (fun _ => h g1 hkp hc1 (MUw_cong hw1 (fun u hu => ?_))) (fun z => absurd z (by omega))
    have : (u < n ∧ wt u = x ∧ u ≠ e) = (wt u = x ∧ u ≠ e) := propext ⟨fun z => z.2, fun z => ⟨hu, z⟩⟩
    simp only [this]
  · exact ⟨rfl, rfl, rfl, kp_rf, hc, MUw_cong hw (fun u _ => (if_neg (fun z => absurd z.1 (by omega))).symm)⟩
theorem r_solves {x : Nat} {post : St → Prop} (hs : MUs sd n ow kk g) (hc : MUc n c g) (hw : MUw n wt g) (hx : x < 64) (hS : SI n c wt)
    (h : ∀ g', kp [2, 3] [] g g' → MUc n (slC n ow kk c wt x) g' → MUw n (slW n ow kk c wt x) g' → post g') : V_X7_solves (nI x) g post := by
  have h24 := hs.2.2.1
  unfold V_X7_solves
  refine r_strongest hs hw hx ?_
  have hP4 : strN (powN n ow kk wt x) ≤ 4 := fN_le _ _
  have hst0 : stdN n c wt x ≤ n := fN_le _ _
  -- the rest, where nobody is lost
  have rest : ¬ beaten n ow kk c wt x → J_X7_solves_80 (nI x) post (nI x) (iI n (stdN n c wt x)) (iI 4 (strN (powN n ow kk wt x))) (-1) g := fun hb => by
    unfold J_X7_solves_80
    refine lp_for n (fun i z => z = (nI x, iI n (stdN n c wt x), iI 4 (strN (powN n ow kk wt x)), iI n (if stdN n c wt x < n then n else fNf (fun u => decide (wt u = x ∧ ow u = strN (powN n ow kk wt x))) i (n - i)), nI (n - i) - 1, g)) ?_ ?_ ?_
    · rintro K i _ hi rfl hK
      show J_X7_solves_88 (nI x) post K (nI x) (iI n (stdN n c wt x)) (iI 4 (strN (powN n ow kk wt x))) _ (nI (n - i) - 1) g
      have ej : n - i = (n - (i + 1)) + 1 := by omega
      have hj : n - (i + 1) < n := by omega
      rw [ej, nI_pred]
      have e5 : nI (n - (i + 1)) + (-1) = nI (n - (i + 1)) - 1 := (Int32.sub_eq_add_neg _ _).symm
      generalize hje : n - (i + 1) = j at hj e5
      have hfs : fNf (fun u => decide (wt u = x ∧ ow u = strN (powN n ow kk wt x))) (i + 1) j = if decide (wt j = x ∧ ow j = strN (powN n ow kk wt x)) = true then j else fNf (fun u => decide (wt u = x ∧ ow u = strN (powN n ow kk wt x))) i (j + 1) := rfl
      unfold J_X7_solves_88 J_X7_solves_124
      refine wp_f (nI_pos (by omega)) ?_
      rw [e5]
      by_cases hst : stdN n c wt x < n
      · refine wp_f2 (fun z => absurd ((iI_m1 (by omega)).mp z) (by omega)) (hK _ ?_)
        rw [hje, if_pos hst, if_pos hst]
      · rw [if_neg hst]
        refine wp_t2 (iI_out (by omega)) ⟨vp_in_nI (by omega) (by decide), ?_⟩
        obtain ⟨o1, o2, -, -⟩ := hs.2.2.2 j hj
        rw [nI_clamp (by omega), hw j hj, o1]
        have skip : ¬ (wt j = x ∧ ow j = strN (powN n ow kk wt x)) → K (nI x, iI n (stdN n c wt x), iI 4 (strN (powN n ow kk wt x)), iI n (fNf (fun u => decide (wt u = x ∧ ow u = strN (powN n ow kk wt x))) i (j + 1)), nI j - 1, g) := fun hne => hK _ (by
          rw [hje, if_neg hst, hfs, if_neg (by simpa using hne)])
        by_cases ew : wt j = x
        · refine wp_t2 (by rw [ew, iI_in hx]) ⟨vp_in_nI (by omega) (by decide), ?_⟩
          by_cases eo : ow j = strN (powN n ow kk wt x)
          · refine wp_t2 (by rw [← eo, iI_in o2]) (hK _ ?_)
            rw [hje, if_neg hst, hfs, if_pos (decide_eq_true ⟨ew, eo⟩), iI_in hj]
          · exact wp_f2 (fun z => eo ((iI_nI (by decide) o2).mp z.symm).symm) (skip (fun z => eo z.2))
        · exact wp_f2 (fun z => ew ((iI_nI (by decide) hx).mp z)) (skip (fun z => ew z.1))
    · rintro K _ rfl
      show J_X7_solves_88 (nI x) post K (nI x) (iI n (stdN n c wt x)) (iI 4 (strN (powN n ow kk wt x))) _ (nI (n - n) - 1) g
      unfold J_X7_solves_88
      rw [Nat.sub_self]
      have hg : (if stdN n c wt x < n then n else fNf (fun u => decide (wt u = x ∧ ow u = strN (powN n ow kk wt x))) n 0) = goesN n ow kk c wt x := rfl
      rw [hg]
      refine wp_t (by decide) (r_back hs hc hw hx (fun g' q1 q2 q3 => h g' q1 ?_ ?_))
      · unfold slC; rw [if_neg hb]; exact q2
      · unfold slW; rw [if_neg hb]; exact q3
    · rw [hs.2.1, Nat.sub_zero]
      have : (if stdN n c wt x < n then n else fNf (fun u => decide (wt u = x ∧ ow u = strN (powN n ow kk wt x))) 0 n) = n := by split <;> rfl
      rw [this, iI_out (Nat.le_refl n)]
  refine lp_for n (fun k z => z = (nI x, iI n (if stdN n c wt x < k then stdN n c wt x else n), iI 4 (strN (powN n ow kk wt x)), -1, nI k, g)) ?_ ?_ ?_
  · rintro K k _ hk rfl hK
    show J_X7_solves_14 (nI x) post K (nI x) _ (iI 4 (strN (powN n ow kk wt x))) (-1) (nI k) g
    unfold J_X7_solves_14 J_X7_solves_48
    rw [hs.2.1]
    refine pk_le n k (fun z => absurd z (by omega)) (fun _ => ⟨vp_in_nI (by omega) (by decide), ?_⟩)
    rw [nI_clamp (by omega), hc k hk, hw k hk]
    have skip : ¬ (c k = x ∧ wt k = x) → K (nI x, iI n (if stdN n c wt x < k then stdN n c wt x else n), iI 4 (strN (powN n ow kk wt x)), -1, nI k + 1, g) := fun hne => hK _ (by
      have : (stdN n c wt x < k + 1) = (stdN n c wt x < k) := propext ⟨fun z => by
        by_cases e : stdN n c wt x = k
        · exfalso
          have h8 := of_decide_eq_true (fN_lt (p := fun u => decide (c u = x ∧ wt u = x)) (n := n) (by unfold stdN at e; omega)).1
          unfold stdN at e
          rw [e] at h8
          exact hne h8
        · omega, fun z => by omega⟩
      rw [nI_up]
      simp only [this])
    by_cases e1 : c k = x
    · refine wp_t2 (by rw [e1, iI_in hx]) ⟨vp_in_nI (by omega) (by decide), ?_⟩
      by_cases e2 : wt k = x
      · refine wp_t2 (by rw [e2, iI_in hx]) (hK _ ?_)
        have es : stdN n c wt x = k := fN_one hk (decide_eq_true ⟨e1, e2⟩) (fun j hj hjp => by
          have := of_decide_eq_true hjp
          exact hS.2 j k hj hk (by omega) (by omega))
        rw [nI_up, es, if_pos (by omega), iI_in hk]
      · exact wp_f2 (fun z => e2 ((iI_nI (by decide) hx).mp z)) (skip (fun z => e2 z.2))
    · exact wp_f2 (fun z => e1 ((iI_nI (by decide) hx).mp z)) (skip (fun z => e1 z.1))
  · rintro K _ rfl
    show J_X7_solves_14 (nI x) post K (nI x) _ (iI 4 (strN (powN n ow kk wt x))) (-1) (nI n) g
    unfold J_X7_solves_14
    rw [hs.2.1]
    have e : (if stdN n c wt x < n then stdN n c wt x else n) = stdN n c wt x := by split <;> omega
    rw [e]
    refine pk_le n n (fun _ => ?_) (fun z => absurd z (by omega))
    by_cases hst : stdN n c wt x < n
    · refine wp_f (fun z => absurd ((iI_m1 (by omega)).mp z) (by omega)) ?_
      by_cases hp4 : strN (powN n ow kk wt x) < 4
      · refine wp_f (fun z => absurd ((iI_m1 (by decide)).mp z) (by omega)) ⟨by rw [iI_in hst]; exact vp_in_nI (by omega) (by decide), ?_⟩
        obtain ⟨o1, o2, -, -⟩ := hs.2.2.2 _ hst
        rw [show Int32.toNatClampNeg (iI n (stdN n c wt x)) = stdN n c wt x by rw [iI_in hst, nI_clamp (by omega)], o1]
        by_cases ho : strN (powN n ow kk wt x) = ow (stdN n c wt x)
        · exact wp_t (by rw [ho, iI_in o2]) (rest (fun z => z.2.2 ho))
        · have hb : beaten n ow kk c wt x := ⟨hst, hp4, ho⟩
          refine wp_f (fun z => ho ((iI_nI (by decide) o2).mp z)) ?_
          rw [iI_in hst]
          refine r_lose h24 hst hc hw (fun g' q1 q2 q3 => h g' q1 ?_ ?_)
          · unfold slC; rw [if_pos hb]; exact q2
          · unfold slW; rw [if_pos hb]; exact q3
      · exact wp_t (iI_out (by omega)) (rest (fun z => hp4 z.2.1))
    · exact wp_t (iI_out (by omega)) (rest (fun z => hst z.1))
  · rw [if_neg (Nat.not_lt_zero _), iI_out (Nat.le_refl n)]
    rfl
/-- the orders of a step, as the reference holds them -/
def MOd (n k : Nat) (dr : Nat → Nat) (g : St) : Prop := ∀ u, u < n → ∃ m, m ≤ 2 ∧ g.1 4 u = nI m ∧ (k < m ↔ dr u < 8) ∧ (k < m → (if k = 0 then g.1 5 u else g.1 6 u) = nI (dr u))
def rngK (i j : Nat) : Nat → Nat → Bool := fun u v => decide (min u v < i ∨ (min u v = i ∧ max u v < j))
/-- the end of a step: the contested cells, then all move -/
theorem r_while {y : Int32} {post : St → Prop} (hs : MUs sd n ow kk g) (hc : MUc n c g) (hw : MUw n wt g) (hS : SI n c wt)
    (h : ∀ g', kp [2, 3] [] g g' → MUc n (stl n ow kk 48 (c, wt)).2 g' → post g') :
    lpP (fun K145 (z : Int32 × St) => J_X7_step_145 y post K145 z.1 z.2) (iI 64 (cntd n wt), g) := by
  have h24 := hs.2.2.1
  -- all move
  have fin : ∀ (S : (Nat → Nat) × (Nat → Nat)) (g1 : St), kp [2, 3] [] g g1 → MUc n S.1 g1 → MUw n S.2 g1 → S.2 = (stl n ow kk 48 (c, wt)).2 → lpP (fun K165 (z : Int32 × St) => J_X7_step_165 y post K165 z.1 z.2) (0, g1) := fun S g1 k1 c1 w1 eS => by
    refine lp_for n (fun k z => z.1 = nI k ∧ kp [2, 3] [] g z.2 ∧ MUc n (fun u => if u < k then S.2 u else S.1 u) z.2 ∧ MUw n S.2 z.2) ?_ ?_ ?_
    · rintro K k ⟨z1, g2⟩ hk ⟨e1, hkp, hc2, hw2⟩ hK
      dsimp only at e1 hkp hc2 hw2
      subst e1
      show J_X7_step_165 y post K (nI k) g2
      have hs2 := MUs_23 hs hkp
      unfold J_X7_step_165
      rw [hs2.2.1]
      refine pk_le n k (fun z => absurd z (by omega)) (fun _ => ⟨vp_in_nI (by omega) (by decide), vp_in_nI (by omega) (by decide), hK _ ⟨nI_up k, kp_sA hkp (by simp), ?_, MUw_2 (by decide) hw2⟩⟩)
      rw [nI_clamp (by omega), hw2 k hk]
      exact MUc_cong (MUc_up hc2) (fun u hu => by
        unfold updN
        by_cases eu : u = k
        · subst eu; rw [if_pos rfl, if_pos (by omega)]
        · have : (u < k + 1) = (u < k) := propext ⟨fun z => by omega, fun z => by omega⟩
          rw [if_neg eu]; simp only [this])
    · rintro K ⟨z1, g2⟩ ⟨e1, hkp, hc2, hw2⟩
      dsimp only at e1 hkp hc2 hw2
      subst e1
      show J_X7_step_165 y post K (nI n) g2
      have hs2 := MUs_23 hs hkp
      unfold J_X7_step_165
      rw [hs2.2.1]
      exact pk_le n n (fun _ => h g2 hkp (MUc_cong hc2 (fun u hu => by rw [if_pos hu, eS]))) (fun z => absurd z (by omega))
    · exact ⟨rfl, k1, MUc_cong c1 (fun u _ => (if_neg (Nat.not_lt_zero u)).symm), w1⟩
  refine lp_for 48 (fun k z => ∃ S : (Nat → Nat) × (Nat → Nat), z.1 = iI 64 (cntd n S.2) ∧ kp [2, 3] [] g z.2 ∧ MUc n S.1 z.2 ∧ MUw n S.2 z.2 ∧ SI n S.1 S.2 ∧ ms n S.1 S.2 ≤ 48 - k ∧ stl n ow kk (48 - k) S = stl n ow kk 48 (c, wt)) ?_ ?_ ?_
  · rintro K k ⟨z1, g1⟩ hk ⟨S, e1, hkp, hc1, hw1, hS1, hms, hst⟩ hK
    dsimp only at e1 hkp hc1 hw1
    subst e1
    show J_X7_step_145 y post K (iI 64 (cntd n S.2)) g1
    have hs1 := MUs_23 hs hkp
    have e48 : 48 - k = (48 - (k + 1)) + 1 := by omega
    rw [e48] at hst hms
    unfold stl at hst
    unfold J_X7_step_145
    by_cases hcn : cntd n S.2 = 64
    · rw [if_pos hcn] at hst
      exact wp_t (by rw [hcn]; rfl) (fin S g1 hkp hc1 hw1 (by rw [hst]; rfl))
    · rw [if_neg hcn] at hst
      obtain ⟨x1, x2⟩ := cntd_in hcn
      obtain ⟨y1, y2, y3⟩ := slv_ok (ow := ow) (kk := kk) hS1 x1 x2
      rw [iI_in x1]
      refine wp_f (nI_m1 (by omega)) (r_solves hs1 hc1 hw1 x1 hS1 (fun g2 q1 q2 q3 => r_contested (MUs_23 hs1 q1) q3 (hK _ ⟨(slC n ow kk S.1 S.2 (cntd n S.2), slW n ow kk S.1 S.2 (cntd n S.2)), rfl, kp_tr hkp q1, q2, q3, y1, ?_, hst⟩)))
      dsimp only
      omega
  · rintro K ⟨z1, g1⟩ ⟨S, e1, hkp, hc1, hw1, hS1, hms, hst⟩
    dsimp only at e1 hkp hc1 hw1
    subst e1
    show J_X7_step_145 y post K (iI 64 (cntd n S.2)) g1
    have h64 := (stl_ok (ow := ow) (kk := kk) 0 S hS1 hms).2
    have h64 : cntd n S.2 = 64 := h64
    have hst : S = stl n ow kk 48 (c, wt) := hst
    unfold J_X7_step_145
    exact wp_t (by rw [h64]; rfl) (fin S g1 hkp hc1 hw1 (by rw [hst]))
  · exact ⟨(c, wt), rfl, kp_rf, hc, hw, hS, ms_48 h24, rfl⟩
theorem r_step {k : Nat} {dr : Nat → Nat} {post : St → Prop} (hk2 : k < 2) (hs : MUs sd n ow kk g) (hc : MUc n c g) (hC : Cok n c) (hd : MOd n k dr g)
    (h : ∀ g', kp [2, 3] [] g g' → MUc n (stepN n ow kk sd dr c) g' → post g') : V_X7_step (nI k) g post := by
  have h24 := hs.2.2.1
  have hS := SI_0 (sd := sd) (dr := dr) hC
  unfold V_X7_step
  refine lp_for n (fun i z => z.1 = nI k ∧ z.2.1 = nI i ∧ kp [2, 3] [] g z.2.2 ∧ MUc n c z.2.2 ∧ ∀ u, u < i → z.2.2.1 3 u = iI 64 (wt0 sd dr c u)) ?_ ?_ ?_
  · rintro K i ⟨z1, z2, g1⟩ hi ⟨e1, e2, hkp, hc1, hw1⟩ hK
    dsimp only at e1 e2 hkp hc1 hw1
    subst e1 e2
    show J_X7_step_2 (nI k) post K (nI k) (nI i) g1
    have hs1 := MUs_23 hs hkp
    obtain ⟨m, m2, em, miff, mdir⟩ := hd i hi
    have iv : vp_in (nI i) 24 := vp_in_nI (by omega) (by decide)
    -- the last store
    have last : ∀ v : Int32, v = iI 64 (wt0 sd dr c i) → J_X7_step_93 (nI k) post K (nI k) (nI i) v (nI i) g1 := fun v ev => by
      unfold J_X7_step_93
      refine ⟨iv, hK _ ⟨rfl, nI_up i, kp_sA hkp (by simp), MUc_3 (by decide) hc1, fun u hu => ?_⟩⟩
      show (sA g1 3 _).1 3 u = _
      rw [sA_eq, nI_clamp (by omega), ev]
      unfold upd
      by_cases eu : u = i
      · rw [if_pos eu, eu]
      · rw [if_neg eu]; exact hw1 u (by omega)
    have stay : wt0 sd dr c i = c i → J_X7_step_83 (nI k) post K (nI k) (nI i) (nI i) g1 := fun e => by
      unfold J_X7_step_83
      refine ⟨iv, last _ ?_⟩
      rw [nI_clamp (by omega), hc1 i hi, e]
    have stay2 : wt0 sd dr c i = c i → J_X7_step_30 (nI k) post K (nI k) (nI i) g1 := fun e => by
      unfold J_X7_step_30 J_X7_step_62
      exact wp_t rfl (stay e)
    have go : c i < 64 → dr i < 8 → J_X7_step_59 (nI k) post K (nI k) (nI i) (nI (dr i)) (nI (c i)) g1 := fun hl hdi => by
      have hwi : wt0 sd dr c i = tgN sd (c i) (dr i) := if_pos hl
      unfold J_X7_step_59
      refine r_moved hl hdi ?_
      unfold J_X7_step_62
      by_cases hm : mvN (c i) (dr i) < 64
      · rw [iI_in hm]
        refine wp_f (nI_m1 (by omega)) (r_ground hm ?_)
        rw [hs1.1]
        by_cases hw : gN sd (mvN (c i) (dr i)) = 120
        · refine wp_t2 (by rw [hw]; rfl) (stay ?_)
          rw [hwi]; exact if_neg (fun e => e.2.2 hw)
        · refine wp_f2 (fun e => hw ((nI_eq (b := 120) (Nat.lt_trans (gN_lt _ _) (by decide)) (by decide)).mp e)) (last _ ?_)
          rw [hwi]
          unfold tgN
          rw [if_pos ⟨hdi, hm, hw⟩, iI_in hm]
      · rw [iI_out (by omega)]
        refine wp_t rfl (stay ?_)
        rw [hwi]; exact tgN_off hm
    unfold J_X7_step_2
    rw [hs1.2.1]
    refine pk_le n i (fun z => absurd z (by omega)) (fun _ => ⟨iv, ?_⟩)
    rw [nI_clamp (by omega), hc1 i hi, hkp.1 4 (by simp), hkp.1 5 (by simp), hkp.1 6 (by simp), em]
    by_cases hl : c i < 64
    · refine wp_f (fun z => absurd ((iI_m1 (by decide)).mp z) (by omega)) ⟨iv, pk_lt k m (fun z => ⟨iv, ?_⟩) (fun z => ?_)⟩
      · have hdi := miff.mp z
        have hdv := mdir z
        rw [iI_in hl]
        refine And.symm (pk_eq k 0 (fun e => ⟨iv, ?_⟩) (fun e => ⟨iv, ?_⟩))
        · rw [if_pos e] at hdv
          rw [hdv]; exact go hl hdi
        · rw [if_neg e] at hdv
          rw [hdv]; exact go hl hdi
      · refine stay2 ?_
        unfold wt0
        rw [if_pos hl]
        exact if_neg (fun y => absurd (miff.mpr y.1) (by omega))
    · refine wp_t (iI_out (by omega)) (stay2 ?_)
      unfold wt0
      rw [if_neg hl]
      have := hC.1 i hi
      omega
  · rintro K ⟨z1, z2, g1⟩ ⟨e1, e2, hkp, hc1, hw1⟩
    dsimp only at e1 e2 hkp hc1 hw1
    subst e1 e2
    show J_X7_step_2 (nI k) post K (nI k) (nI n) g1
    have hs1 := MUs_23 hs hkp
    have hw1 : MUw n (wt0 sd dr c) g1 := hw1
    unfold J_X7_step_2
    rw [hs1.2.1]
    refine pk_le n n (fun _ => ?_) (fun z => absurd z (by omega))
    -- the pairs
    refine lp_for n (fun i z => z.1 = nI i ∧ kp [2, 3] [] g z.2 ∧ MUc n (pC n ow kk c (wt0 sd dr c) (minK i)) z.2 ∧ MUw n (pW n ow kk c (wt0 sd dr c) (minK i)) z.2) ?_ ?_ ?_
    · rintro K2 i ⟨z1, g2⟩ hi ⟨e1, hkp2, hc2, hw2⟩ hK2
      dsimp only at e1 hkp2 hc2 hw2
      subst e1
      show J_X7_step_102 (nI k) post K2 (nI i) g2
      have hs2 := MUs_23 hs hkp2
      unfold J_X7_step_102
      rw [hs2.2.1]
      refine pk_le n i (fun z => absurd z (by omega)) (fun _ => ?_)
      have sameK : ∀ {K1 K3 : Nat → Nat → Bool}, (∀ a b, a < n → b < n → a ≠ b → K1 a b = K3 a b) → ∀ u, u < n → pC n ow kk c (wt0 sd dr c) K1 u = pC n ow kk c (wt0 sd dr c) K3 u ∧ pW n ow kk c (wt0 sd dr c) K1 u = pW n ow kk c (wt0 sd dr c) K3 u := fun hh u hu => pC_same (fun a b ha hb hab => hh a b ha hb (fun e => hab.2.2.1 (by rw [e]))) hu
      refine lp_for (n - (i + 1)) (fun j z => z.1 = nI i ∧ z.2.1 = nI (i + 1 + j) ∧ kp [2, 3] [] g z.2.2 ∧ MUc n (pC n ow kk c (wt0 sd dr c) (rngK i (i + 1 + j))) z.2.2 ∧ MUw n (pW n ow kk c (wt0 sd dr c) (rngK i (i + 1 + j))) z.2.2) ?_ ?_ ?_
      · rintro K3 j ⟨z1, z2, g3⟩ hj ⟨e1, e2, hkp3, hc3, hw3⟩ hK3
        dsimp only at e1 e2 hkp3 hc3 hw3
        subst e1 e2
        show J_X7_step_114 (nI k) post K2 K3 (nI i) (nI (i + 1 + j)) g3
        have hs3 := MUs_23 hs hkp3
        unfold J_X7_step_114
        rw [hs3.2.1]
        have hv : i + 1 + j < n := by omega
        have hiv : i < i + 1 + j := by omega
        rw [show i + 1 + (j + 1) = (i + 1 + j) + 1 by omega] at hK3
        generalize i + 1 + j = v at hv hiv hc3 hw3 hK3
        have hsy : ∀ a b, rngK i v a b = rngK i v b a := fun a b => by unfold rngK; rw [Nat.min_comm, Nat.max_comm]
        have hS3 : SI n (pC n ow kk c (wt0 sd dr c) (rngK i v)) (pW n ow kk c (wt0 sd dr c) (rngK i v)) := SI_pair hS
        refine pk_le n v (fun z => absurd z (by omega)) (fun _ => r_meets hs3 hc3 hw3 hS3 hi hv (fun hf g4 q1 q2 q3 => ?_) (fun hf => ?_))
        · have hf0 := (fcs_pair hS hi hv (hsy i v)).mp hf
          have hmore : ∀ u, u < n → _ := fun u hu => pC_more (ow := ow) (kk := kk) (K := rngK i v) (K' := rngK i (v + 1)) hS hi hv hf0.1 hf0.2 (by rw [← hsy]; exact hf0.2) (fun a b ha hb hab => by
            have hne : a ≠ b := fun e => hab.2.2.1 (by rw [e])
            unfold rngK
            rw [Bool.eq_iff_iff]
            simp only [Bool.or_eq_true, decide_eq_true_eq]
            omega) hu
          refine hK3 _ ⟨rfl, nI_up v, kp_tr hkp3 q1, MUc_cong q2 (fun u hu => ?_), MUw_cong q3 (fun u hu => ?_)⟩
          · rw [(hmore u hu).1]
            by_cases e : pwN (kk i) = pwN (kk v)
            · rw [if_pos e, if_pos e]
            · rw [if_neg e, if_neg e]; rfl
          · rw [(hmore u hu).2]
            by_cases e : pwN (kk i) = pwN (kk v)
            · rw [if_pos e, if_pos e]
              unfold updN
              by_cases e1 : u = v
              · subst e1; simp
              · by_cases e2 : u = i
                · subst e2; simp [e1]
                · simp [e1, e2]
            · rw [if_neg e, if_neg e]; rfl
        · have hsame := fun u (hu : u < n) => pC_same (n := n) (ow := ow) (kk := kk) (c := c) (wt := wt0 sd dr c) (K := rngK i v) (K' := rngK i (v + 1)) (fun a b ha hb hab => by
            have hne : a ≠ b := fun e => hab.2.2.1 (by rw [e])
            by_cases hh : (a = i ∧ b = v) ∨ (a = v ∧ b = i)
            · exfalso
              have hab2 : fcs ow c (wt0 sd dr c) i v := by
                rcases hh with ⟨ea, eb⟩ | ⟨ea, eb⟩
                · rw [← ea, ← eb]; exact hab
                · rw [← ea, ← eb]; exact fcs_sym hab
              exact hf ((fcs_pair hS hi hv (hsy i v)).mpr ⟨hab2, decide_eq_false (by omega)⟩)
            · unfold rngK
              apply decide_eq_decide.mpr
              omega) hu
          exact hK3 _ ⟨rfl, nI_up v, hkp3, MUc_cong hc3 (fun u hu => (hsame u hu).1), MUw_cong hw3 (fun u hu => (hsame u hu).2)⟩
      · rintro K3 ⟨z1, z2, g3⟩ ⟨e1, e2, hkp3, hc3, hw3⟩
        dsimp only at e1 e2 hkp3 hc3 hw3
        subst e1 e2
        rw [show i + 1 + (n - (i + 1)) = n by omega] at hc3 hw3 ⊢
        show J_X7_step_114 (nI k) post K2 K3 (nI i) (nI n) g3
        have hs3 := MUs_23 hs hkp3
        unfold J_X7_step_114
        rw [hs3.2.1]
        have hsame := sameK (K1 := rngK i n) (K3 := minK (i + 1)) (fun a b ha hb hab => by
          unfold rngK minK
          apply decide_eq_decide.mpr
          omega)
        exact pk_le n n (fun _ => hK2 _ ⟨nI_up i, hkp3, MUc_cong hc3 (fun u hu => (hsame u hu).1), MUw_cong hw3 (fun u hu => (hsame u hu).2)⟩) (fun z => absurd z (by omega))
      · have hsame := sameK (K1 := minK i) (K3 := rngK i (i + 1 + 0)) (fun a b ha hb hab => by
          unfold rngK minK
          apply decide_eq_decide.mpr
          omega)
        exact ⟨rfl, nI_up i, hkp2, MUc_cong hc2 (fun u hu => (hsame u hu).1), MUw_cong hw2 (fun u hu => (hsame u hu).2)⟩
    · rintro K2 ⟨z1, g2⟩ ⟨e1, hkp2, hc2, hw2⟩
      dsimp only at e1 hkp2 hc2 hw2
      subst e1
      show J_X7_step_102 (nI k) post K2 (nI n) g2
      have hs2 := MUs_23 hs hkp2
      unfold J_X7_step_102
      rw [hs2.2.1]
      have hsame := fun u (hu : u < n) => pC_same (n := n) (ow := ow) (kk := kk) (c := c) (wt := wt0 sd dr c) (K := minK n) (K' := allK) (fun a b ha hb hab => by
        unfold minK allK
        exact decide_eq_true (by omega)) hu
      have hc3 := MUc_cong hc2 (fun u hu => (hsame u hu).1)
      have hw3 := MUw_cong hw2 (fun u hu => (hsame u hu).2)
      exact pk_le n n (fun _ => r_contested hs2 hw3 (r_while hs2 hc3 hw3 (SI_pair hS) (fun g' q1 q2 => h g' (kp_tr hkp2 q1) q2))) (fun z => absurd z (by omega))
    · refine ⟨rfl, hkp, ?_, ?_⟩
      · exact MUc_cong hc1 (fun u _ => (if_neg (fun z => by have := z.2.1; simp [minK] at this)).symm)
      · exact MUw_cong hw1 (fun u _ => by
          unfold pW
          rw [if_neg (fun z => by have := z.2.1; simp [minK] at this), if_neg (fun z => by have := z.2.1; simp [minK] at this)])
  · exact ⟨rfl, rfl, kp_rf, hc, fun u hu => absurd hu (by omega)⟩
end MF
