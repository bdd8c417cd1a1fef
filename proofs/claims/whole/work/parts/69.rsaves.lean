/-! PART 69: the reference's saves -/
def MSp (p : Nat) (F : Nat → Nat × (Nat → Nat)) (bk al en : Nat → Nat → Bool) (g : St) : Prop :=
  g.1 12 p = nI (F p).1 ∧ (∀ k, k < (F p).1 → g.1 11 (61 * p + k) = nI ((F p).2 k)) ∧ (∀ b : Nat, b < 16 → g.1 13 (16 * p + b) = nI (bN (bk p b))) ∧ (∀ q : Nat, q < 4 → g.1 14 (4 * p + q) = nI (bN (al p q))) ∧ ∀ q : Nat, q < 4 → g.1 15 (4 * p + q) = nI (bN (en p q))
def MSv (F : Nat → Nat × (Nat → Nat)) (bk al en : Nat → Nat → Bool) (g : St) : Prop := ∀ p : Nat, p < 4 → MSp p F bk al en g
theorem nar_b (b : Bool) : vp_nar .boolean (nI (bN b)) = nI (bN b) := by cases b <;> rfl
section MV
variable {p : Nat} {F J : Nat → Nat × (Nat → Nat)} {bk al en tr : Nat → Nat → Bool} {g g' : St}
theorem MSv_kp {ks ss : List Nat} (h : MSv F bk al en g) (hk : kp ks ss g g') (h1 : 11 ∉ ks) (h2 : 12 ∉ ks) (h3 : 13 ∉ ks) (h4 : 14 ∉ ks) (h5 : 15 ∉ ks) : MSv F bk al en g' := fun p hp => by
  unfold MSp
  rw [hk.1 _ h1, hk.1 _ h2, hk.1 _ h3, hk.1 _ h4, hk.1 _ h5]
  exact h p hp
theorem r_blocksOf {post : Int32 → St → Prop} (hs : MSp p F bk al en g) (hz : (F p).1 ≤ 60) (hp : p < 4) (h : post (nI (((F p).1 + 3) / 4)) g) : V_X7_blocksOf (nI p) g post := by
  unfold V_X7_blocksOf
  rw [nI_clamp (by omega), hs.1]
  have e : (nI (F p).1 + 3) / 4 = nI (((F p).1 + 3) / 4) := by
    show (nI (F p).1 + nI 3) / nI 4 = _
    rw [nI_add, pk_div (by omega) (by omega) (by omega)]
  rw [e]
  exact ⟨vp_in_nI hp (by omega), h⟩
theorem i_16 (p b : Nat) : (16 : Int32) * nI p + nI b = nI (16 * p + b) := by
  show nI 16 * nI p + nI b = _
  rw [pk_mul, nI_add]
theorem i_61 (p b : Nat) : (61 : Int32) * nI p + nI b = nI (61 * p + b) := by
  show nI 61 * nI p + nI b = _
  rw [pk_mul, nI_add]
theorem i_4 (p b : Nat) : (4 : Int32) * nI p + nI b = nI (4 * p + b) := by
  show nI 4 * nI p + nI b = _
  rw [pk_mul, nI_add]
theorem r_canRebuild {b : Nat} {post : Int32 → St → Prop} (hs : MSv F bk al en g) (hp : p < 4) (hb : b < 16) (h : post (nI (bN (crN al en bk p b))) g) : V_X7_canRebuild (nI p) (nI b) g post := by
  unfold V_X7_canRebuild
  refine lp_for 4 (fun q y => y = (nI p, nI b, nI (bN (decide (∃ i, i < q ∧ al p i = true))), nI (bN (decide (∀ i, i < q → al p i = true → en p i = false ∧ bk i b = false))), nI q, g)) ?_ ?_ ?_
  · rintro K q _ hq rfl hK
    show J_X7_canRebuild_8 (nI p) (nI b) post K (nI p) (nI b) _ _ (nI q) g
    obtain ⟨a1, a2, a3, a4, a5⟩ := hs p hp
    obtain ⟨b1, b2, b3, b4, b5⟩ := hs q hq
    unfold J_X7_canRebuild_8 J_X7_canRebuild_68 J_X7_canRebuild_69 J_X7_canRebuild_72
    rw [i_4, i_16, nI_clamp (n := 4 * p + q) (by omega), nI_clamp (n := 16 * q + b) (by omega), a4 q hq, a5 q hq, b3 b hb]
    have i1 : vp_in (nI (4 * p + q)) 16 := vp_in_nI (by omega) (by omega)
    have i2 : vp_in (nI (16 * q + b)) 64 := vp_in_nI (by omega) (by omega)
    have ex : ∀ v : Bool, al p q = true → v = decide (en p q = false ∧ bk q b = false) → K (nI p, nI b, 1, nI (bN (decide (∀ i, i < q → al p i = true → en p i = false ∧ bk i b = false))) &&& nI (bN v), nI q + 1, g) := fun v hal hv => hK _ (by
      rw [nI_up]
      have e1 : decide (∃ i, i < q + 1 ∧ al p i = true) = true := decide_eq_true ⟨q, by omega, hal⟩
      have e2 : nI (bN (decide (∀ i, i < q → al p i = true → en p i = false ∧ bk i b = false))) &&& nI (bN v) = nI (bN (decide (∀ i, i < q + 1 → al p i = true → en p i = false ∧ bk i b = false))) := by
        have e3 : decide (∀ i, i < q + 1 → al p i = true → en p i = false ∧ bk i b = false) = (decide (∀ i, i < q → al p i = true → en p i = false ∧ bk i b = false) && v) := by
          rw [hv, Bool.eq_iff_iff, Bool.and_eq_true, decide_eq_true_eq, decide_eq_true_eq, decide_eq_true_eq]
          exact ⟨fun z => ⟨fun i hi => z i (by omega), z q (by omega) hal⟩, fun z i hi ha => by
            by_cases e : i = q
            · rw [e]; exact z.2
            · exact z.1 i (by omega) ha⟩
        rw [e3]
        generalize decide (∀ i, i < q → al p i = true → en p i = false ∧ bk i b = false) = w
        cases w <;> cases v <;> rfl
      rw [e1, e2]
      rfl)
    refine pk_le 4 q (fun z => absurd z (by omega)) (fun _ => ⟨i1, ?_⟩)
    cases hal : al p q with
    | false =>
      refine wp_t2 rfl (hK _ ?_)
      rw [nI_up]
      have e1 : (∃ i, i < q + 1 ∧ al p i = true) ↔ (∃ i, i < q ∧ al p i = true) := ⟨fun ⟨i, hi, ha⟩ => by
        by_cases e : i = q
        · rw [e, hal] at ha; cases ha
        · exact ⟨i, by omega, ha⟩, fun ⟨i, hi, ha⟩ => ⟨i, by omega, ha⟩⟩
      have e2 : (∀ i, i < q + 1 → al p i = true → en p i = false ∧ bk i b = false) ↔ (∀ i, i < q → al p i = true → en p i = false ∧ bk i b = false) := ⟨fun z i hi => z i (by omega), fun z i hi ha => by
        by_cases e : i = q
        · rw [e, hal] at ha; cases ha
        · exact z i (by omega) ha⟩
      simp only [e1, e2]
    | true =>
      refine wp_f2 (by decide) ⟨i1, ?_⟩
      cases hen : en p q with
      | true => exact wp_f2 (by decide) (ex false hal (by rw [hen]; rfl))
      | false =>
        refine wp_t2 rfl ⟨i2, ?_⟩
        cases hbk : bk q b with
        | true => exact wp_f2 (by decide) (ex false hal (by rw [hen, hbk]; rfl))
        | false => exact wp_t2 rfl (ex true hal (by rw [hen, hbk]; rfl))
  · rintro K _ rfl
    show J_X7_canRebuild_8 (nI p) (nI b) post K (nI p) (nI b) _ _ (nI 4) g
    unfold J_X7_canRebuild_8
    refine pk_le 4 4 (fun _ => ?_) (fun z => absurd z (by omega))
    unfold crN at h
    generalize decide (∃ i : Nat, i < 4 ∧ al p i = true) = w at h
    generalize decide (∀ i : Nat, i < 4 → al p i = true → en p i = false ∧ bk i b = false) = v at h
    cases w with
    | false => exact wp_t rfl h
    | true =>
      refine wp_f (show ¬ nI (bN true) = 0 by decide) ?_
      cases v with
      | false => exact wp_t rfl h
      | true => exact wp_f (show ¬ nI (bN true) = 0 by decide) h
  · have e1 : decide (∃ i : Nat, i < 0 ∧ al p i = true) = false := decide_eq_false (fun ⟨i, hi, _⟩ => absurd hi (by omega))
    have e2 : decide (∀ i : Nat, i < 0 → al p i = true → en p i = false ∧ bk i b = false) = true := decide_eq_true (fun i hi => absurd hi (by omega))
    rw [e1, e2]
    rfl
theorem r_save {post : Int32 → St → Prop} (hI : MXI J g) (hb : ∀ p : Nat, p < 4 → (J p).1 ≤ 60) (ht : MT tr g)
    (h : ∀ g', kp [11, 12, 13, 14, 15] [4] g g' → g'.2 4 = nI (bN true) → MSv J (fun _ _ => false) tr (fun _ _ => false) g' → post (nI ((J 0).1 + (J 1).1 + (J 2).1 + (J 3).1)) g') : V_X7_save g post := by
  unfold V_X7_save
  refine lp_for 244 (fun k y => y.1 = nI 0 ∧ y.2.1 = nI k ∧ kp [11] [4] g y.2.2 ∧ y.2.2.2 4 = nI (bN true) ∧ ∀ j, j < k → y.2.2.1 11 j = g.1 9 j) ?_ ?_ ⟨rfl, rfl, kp_sS kp_rf (by simp), sS_eq _ _ _, fun j hj => absurd hj (by omega)⟩
  · rintro K k ⟨y1, y2, g1⟩ hk ⟨e1, e2, k1, c1, h1⟩ hK
    dsimp only at e1 e2 k1 c1 h1
    subst e1 e2
    show J_X7_save_9 post K (nI 0) (nI k) g1
    unfold J_X7_save_9
    refine pk_le 244 k (fun z => absurd z (by omega)) (fun _ => ⟨vp_in_nI hk (by omega), vp_in_nI hk (by omega), hK _ ⟨rfl, nI_up k, kp_sA k1 (by simp), c1, fun j hj => ?_⟩⟩)
    show (sA g1 11 _).1 11 j = _
    rw [sA_eq, nI_clamp (by omega), k1.1 9 (by simp)]
    unfold upd
    by_cases e : j = k
    · rw [if_pos e, e]
    · rw [if_neg e]; exact h1 j (by omega)
  · rintro K ⟨y1, y2, g1⟩ ⟨e1, e2, k1, c1, h1⟩
    dsimp only at e1 e2 k1 c1 h1
    subst e1 e2
    show J_X7_save_9 post K (nI 0) (nI 244) g1
    unfold J_X7_save_9
    refine pk_le 244 244 (fun _ => ?_) (fun z => absurd z (by omega))
    refine lp_for 64 (fun k y => y.1 = nI 0 ∧ y.2.1 = nI k ∧ kp [13] [] g1 y.2.2 ∧ ∀ j, j < k → y.2.2.1 13 j = nI (bN false)) ?_ ?_ ⟨rfl, rfl, kp_rf, fun j hj => absurd hj (by omega)⟩
    · rintro K2 k ⟨y1, y2, g2⟩ hk ⟨e1, e2, k2, h2⟩ hK2
      dsimp only at e1 e2 k2 h2
      subst e1 e2
      show J_X7_save_36 post K2 (nI 0) (nI k) g2
      unfold J_X7_save_36
      refine pk_le 64 k (fun z => absurd z (by omega)) (fun _ => ⟨vp_in_nI hk (by omega), hK2 _ ⟨rfl, nI_up k, kp_sA k2 (by simp), fun j hj => ?_⟩⟩)
      show (sA g2 13 _).1 13 j = _
      rw [sA_eq, nI_clamp (by omega)]
      unfold upd
      by_cases e : j = k
      · rw [if_pos e]; rfl
      · rw [if_neg e]; exact h2 j (by omega)
    · rintro K2 ⟨y1, y2, g2⟩ ⟨e1, e2, k2, h2⟩
      dsimp only at e1 e2 k2 h2
      subst e1 e2
      show J_X7_save_36 post K2 (nI 0) (nI 64) g2
      unfold J_X7_save_36
      refine pk_le 64 64 (fun _ => ?_) (fun z => absurd z (by omega))
      have k12 : kp [11, 13] [4] g g2 := kp_tr (kp_up k1 (fun k hk => by simp at hk ⊢; omega) (fun _ z => z)) (kp_up k2 (fun k hk => by simp at hk ⊢; omega) (fun k hk => absurd hk (by simp)))
      refine lp_for 16 (fun k y => y.1 = nI 0 ∧ y.2.1 = nI k ∧ kp [14, 15] [] g2 y.2.2 ∧ (∀ j, j < k → y.2.2.1 14 j = vp_nar .boolean (g2.1 8 j)) ∧ ∀ j, j < k → y.2.2.1 15 j = nI (bN false)) ?_ ?_ ⟨rfl, rfl, kp_rf, fun j hj => absurd hj (by omega), fun j hj => absurd hj (by omega)⟩
      · rintro K3 k ⟨y1, y2, g3⟩ hk ⟨e1, e2, k3, h3, h4⟩ hK3
        dsimp only at e1 e2 k3 h3 h4
        subst e1 e2
        show J_X7_save_57 post K3 (nI 0) (nI k) g3
        unfold J_X7_save_57
        have iv : vp_in (nI k) 16 := vp_in_nI hk (by omega)
        refine pk_le 16 k (fun z => absurd z (by omega)) (fun _ => ⟨iv, iv, iv, hK3 _ ⟨rfl, nI_up k, kp_sA (kp_sA k3 (by simp)) (by simp), fun j hj => ?_, fun j hj => ?_⟩⟩)
        · show (sA (sA g3 14 _) 15 _).1 14 j = _
          rw [sA_ne _ _ (by decide), sA_eq, nI_clamp (by omega), k3.1 8 (by simp)]
          unfold upd
          by_cases e : j = k
          · rw [if_pos e, e]
          · rw [if_neg e]; exact h3 j (by omega)
        · show (sA (sA g3 14 _) 15 _).1 15 j = _
          rw [sA_eq, sA_ne _ _ (by decide), nI_clamp (by omega)]
          unfold upd
          by_cases e : j = k
          · rw [if_pos e]; rfl
          · rw [if_neg e]; exact h4 j (by omega)
      · rintro K3 ⟨y1, y2, g3⟩ ⟨e1, e2, k3, h3, h4⟩
        dsimp only at e1 e2 k3 h3 h4
        subst e1 e2
        show J_X7_save_57 post K3 (nI 0) (nI 16) g3
        unfold J_X7_save_57
        refine pk_le 16 16 (fun _ => ?_) (fun z => absurd z (by omega))
        have k13 : kp [11, 13, 14, 15] [4] g g3 := kp_tr (kp_up k12 (fun k hk => by simp at hk ⊢; omega) (fun _ z => z)) (kp_up k3 (fun k hk => by simp at hk ⊢; omega) (fun k hk => absurd hk (by simp)))
        refine lp_for 4 (fun k y => y.1 = nI (fb_sm (fun p => (J p).1) k) ∧ y.2.1 = nI k ∧ kp [12] [] g3 y.2.2 ∧ ∀ j, j < k → y.2.2.1 12 j = nI (J j).1) ?_ ?_ ⟨rfl, rfl, kp_rf, fun j hj => absurd hj (by omega)⟩
        · rintro K4 k ⟨y1, y2, g4⟩ hk ⟨e1, e2, k4, h5⟩ hK4
          dsimp only at e1 e2 k4 h5
          subst e1 e2
          show J_X7_save_90 post K4 (nI (fb_sm (fun p => (J p).1) k)) (nI k) g4
          unfold J_X7_save_90
          have iv : vp_in (nI k) 4 := vp_in_nI hk (by omega)
          have e10 : g4.1 10 k = nI (J k).1 := by rw [k4.1 10 (by simp), k13.1 10 (by simp)]; exact (hI k hk).1
          refine pk_le 4 k (fun z => absurd z (by omega)) (fun _ => ⟨iv, iv, iv, hK4 _ ⟨?_, nI_up k, kp_sA k4 (by simp), fun j hj => ?_⟩⟩)
          · show nI (fb_sm (fun p => (J p).1) k) + (sA g4 12 _).1 10 _ = _
            rw [sA_ne _ _ (by decide), nI_clamp (by omega), e10, nI_add]
            rfl
          · show (sA g4 12 _).1 12 j = _
            rw [sA_eq, nI_clamp (by omega), e10]
            unfold upd
            by_cases e : j = k
            · rw [if_pos e, e]
            · rw [if_neg e]; exact h5 j (by omega)
        · rintro K4 ⟨y1, y2, g4⟩ ⟨e1, e2, k4, h5⟩
          dsimp only at e1 e2 k4 h5
          subst e1 e2
          show J_X7_save_90 post K4 (nI (fb_sm (fun p => (J p).1) 4)) (nI 4) g4
          unfold J_X7_save_90
          refine pk_le 4 4 (fun _ => ?_) (fun z => absurd z (by omega))
          have es : fb_sm (fun p => (J p).1) 4 = (J 0).1 + (J 1).1 + (J 2).1 + (J 3).1 := by
            show 0 + (J 0).1 + (J 1).1 + (J 2).1 + (J 3).1 = _
            omega
          rw [es]
          refine h g4 (kp_tr (kp_up k13 (fun k hk => by simp at hk ⊢; omega) (fun _ z => z)) (kp_up k4 (fun k hk => by simp at hk ⊢; omega) (fun k hk => absurd hk (by simp)))) ?_ (fun p hp => ⟨h5 p hp, fun k hk => ?_, fun b hb16 => ?_, fun q hq => ?_, fun q hq => ?_⟩)
          · rw [k4.2 4 (by simp), k3.2 4 (by simp), k2.2 4 (by simp)]; exact c1
          · have := hb p hp
            rw [k4.1 11 (by simp), k3.1 11 (by simp), k2.1 11 (by simp), h1 _ (by omega)]
            exact (hI p hp).2 k hk
          · rw [k4.1 13 (by simp), k3.1 13 (by simp)]
            exact h2 _ (by omega)
          · rw [k4.1 14 (by simp), h3 _ (by omega), k12.1 8 (by simp), ht p q hp hq]
            exact nar_b _
          · rw [k4.1 15 (by simp)]
            exact h4 _ (by omega)
end MV
