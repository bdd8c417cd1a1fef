/-! PART 77: treaties, repairs, loads: the calls -/
section C5
variable {x1 x2 x3 : Int32} {g mu : St} {f : Nat → Int64} {fd : Nat → UInt64} {K : St → (Nat → Int64) → (Nat → UInt64) → St → Prop}
theorem tr_case (b : Bool) (hR : Rel g mu) (hK : ∀ g' f' fd' mu', Rel g' mu' → K g' f' fd' mu') {Post : Int32 → St × (Nat → Int64) → Prop}
    (hPost : ∀ (k1 : Int32) (z : St × (Nat → Int64)), V_X7_setTreaty x1 x2 (nI (bN b)) mu (fun r4 mu5 => V_X7_thrown mu5 (fun r6 mu7 => ((r6 = k1 → ((¬ k1 = 0 → K z.1 z.2 fd mu7) ∧ (k1 = 0 → ((r4 = 0 → (((lg_cmp (z.2 0) 0) = 0 → K z.1 z.2 fd mu7) ∧ (¬ (lg_cmp (z.2 0) 0) = 0 → False))) ∧ (¬ r4 = 0 → (((lg_cmp (z.2 0) 1) = 0 → K z.1 z.2 fd mu7) ∧ (¬ (lg_cmp (z.2 0) 1) = 0 → False))))))) ∧ (¬ r6 = k1 → False)))) → Post k1 z) : V_L_setTreaty x1 x2 (nI (bN b)) g f Post := by
  obtain ⟨sd, n, t, sv, ow, kk, s0, D, m, J, tr, F, bk, al, en, hC, hM, hP⟩ := hR
  unfold V_L_setTreaty
  rcases bad_or (n := 4) (by omega) x1 with hb | ⟨p, hp, rfl⟩
  · unfold V_X6_setTreaty
    refine s_reqPx hb (Or.inl ⟨rfl, hPost _ _ ?_⟩)
    unfold V_X7_setTreaty J_X7_setTreaty_23 J_X7_setTreaty_24
    refine bad_le hb (r_no0 (wp_f2 (by decide) ?_)) (r_no0 (wp_f2 (by decide) ?_))
    · exact k_thr (P := fun mu7 => K _ _ fd mu7) (by decide) (sS_eq _ _ _) (hK _ _ _ _ (Rel_0 hC hM hP))
    · exact k_thr (P := fun mu7 => K _ _ fd mu7) (by decide) (sS_eq _ _ _) (hK _ _ _ _ (Rel_0 hC hM hP))
  · rcases bad_or (n := 4) (by omega) x2 with hb | ⟨q, hq, rfl⟩
    · unfold V_X6_setTreaty
      refine s_reqP hp (s_reqPx hb (Or.inl ⟨rfl, hPost _ _ ?_⟩))
      unfold V_X7_setTreaty J_X7_setTreaty_23 J_X7_setTreaty_24
      refine gd_le (n := 4) hp (by omega) (bad_le hb (r_no0 (wp_f2 (by decide) ?_)) (r_no0 (wp_f2 (by decide) ?_)))
      · exact k_thr (P := fun mu7 => K _ _ fd mu7) (by decide) (sS_eq _ _ _) (hK _ _ _ _ (Rel_0 hC hM hP))
      · exact k_thr (P := fun mu7 => K _ _ fd mu7) (by decide) (sS_eq _ _ _) (hK _ _ _ _ (Rel_0 hC hM hP))
    · by_cases hne : p = q
      · subst hne
        unfold V_X6_setTreaty
        refine s_reqP hp (s_reqP hp (wp_t2 rfl (Or.inr ⟨rfl, hPost _ _ ?_⟩)))
        unfold V_X7_setTreaty J_X7_setTreaty_24 J_X7_setTreaty_42
        refine gd_le (n := 4) hp (by omega) (gd_le (n := 4) hp (by omega) (r_no1 (wp_t2 rfl (wp_t rfl (r_no0 (wp_f (by decide) ?_))))))
        rw [sS_00]
        exact k_thr (P := fun mu7 => K _ _ fd mu7) (by decide) (sS_eq _ _ _) (hK _ _ _ _ (Rel_0 hC hM hP))
      · obtain ⟨a1, a2, a3, a4, a5, a6, a7, a8, a9, a10⟩ := hC
        obtain ⟨b1, b2, b3, b4, b5, b6, b7, b8⟩ := hM
        obtain ⟨p1, p2, p3, p5, p6, p7, p8, p9⟩ := hP
        refine s_setTreaty (b := b) a8 a10 hp hq hne ((p7 q hq).2 p hp) (fun g' k1 hT hV => ?_)
        have rel : ∀ mu', kp [8, 15] [0] mu mu' → MT (stT tr p q b) mu' → MSv F bk al (stE en tr p q b) mu' → Rel g' mu' := fun mu' k2 hT2 hV2 => by
          refine ⟨sd, n, t, sv, ow, kk, s0, D, m, J, stT tr p q b, F, bk, al, stE en tr p q b, ⟨CUs_kp a1 k1 (by simp) (by simp) (by simp) (by simp), (k1.2 0 (by simp)).trans a2, CUc_kp a3 k1 (by simp), fun v hv => by rw [k1.1 7 (by simp)]; exact a4 v hv, (k1.2 1 (by simp)).trans a5, COall_kp a6 k1 (by simp) (by simp), fun r hr => CI_kp (a7 r hr) k1 (by simp <;> omega) (by simp <;> omega), hT, (k1.2 2 (by simp)).trans a9, hV⟩, ⟨MUs_kp b1 k2 (by simp) (by simp) (by simp) (by simp), MUc_kp b2 k2 (by simp), (k2.2 3 (by simp)).trans b3, MOall_kp b4 k2 (by simp) (by simp) (by simp), fun r hr => MI_kp (b5 r hr) k2 (by simp) (by simp), hT2, (k2.2 4 (by simp)).trans b7, hV2⟩, ⟨p1, p2, p3, p5, p6, fun i hi => ⟨?_, fun j hj => ?_⟩, p8, p9⟩⟩
          · unfold stT
            rw [if_neg (by omega)]
            exact (p7 i hi).1
          · unfold stT
            by_cases e : (i = p ∧ j = q) ∨ (i = q ∧ j = p)
            · rw [if_pos e, if_pos (by omega)]
            · rw [if_neg e, if_neg (by omega)]
              exact (p7 i hi).2 j hj
        cases htr : tr p q with
        | false =>
          refine wp_t rfl (hPost _ _ (r_setTreaty (b := b) b6 b8 hp hq hne (fun mu' k2 z0 hT2 hV2 => ?_)))
          rw [htr]
          exact k_bool (f := f) (r := false) (P := fun mu7 => K _ _ fd mu7) z0 (hK _ _ _ _ (rel mu' k2 hT2 hV2))
        | true =>
          refine wp_f (by decide) (hPost _ _ (r_setTreaty (b := b) b6 b8 hp hq hne (fun mu' k2 z0 hT2 hV2 => ?_)))
          rw [htr]
          exact k_bool (f := f) (r := true) (P := fun mu7 => K _ _ fd mu7) z0 (hK _ _ _ _ (rel mu' k2 hT2 hV2))
theorem case10_ok (hR : Rel g mu) (hK : ∀ g' f' fd' mu', Rel g' mu' → K g' f' fd' mu') : V_case10 x1 x2 x3 g f fd mu K := by
  unfold V_case10
  by_cases h3 : x3 = 0
  · exact wp_t h3 (tr_case false hR hK (fun k1 z h => wp_t h3 h))
  · exact wp_f h3 (tr_case true hR hK (fun k1 z h => wp_f h3 h))
end C5
/-- the blocks of p below b are rebuilt, where they can be -/
def rpF (al en : Nat → Nat → Bool) (p : Nat) (bk : Nat → Nat → Bool) : Nat → (Nat → Nat → Bool) × Nat
  | 0 => (bk, 0)
  | b + 1 => if ((rpF al en p bk b).1 p b && crN al en (rpF al en p bk b).1 p b) = true then (brkN (rpF al en p bk b).1 p b false, (rpF al en p bk b).2 + 1) else rpF al en p bk b
theorem rpF_Fok {F : Nat → Nat × (Nat → Nat)} {al en bk : Nat → Nat → Bool} {p : Nat} (h : Fok F bk) : ∀ b, Fok F (rpF al en p bk b).1 := by
  intro b
  induction b with
  | zero => exact h
  | succ b ih =>
    unfold rpF
    split
    · intro q hq
      refine ⟨(ih q hq).1, fun i hi => ?_⟩
      show brkN (rpF al en p bk b).1 p b false q i = false
      unfold brkN
      split
      · rfl
      · exact (ih q hq).2 i hi
    · exact ih
theorem rpF_le {al en bk : Nat → Nat → Bool} {p : Nat} : ∀ b, (rpF al en p bk b).2 ≤ b := by
  intro b
  induction b with
  | zero => exact Nat.le_refl _
  | succ b ih =>
    unfold rpF
    split
    · dsimp only; omega
    · omega
theorem andB (v w : Bool) : nI (bN v) &&& nI (bN w) = nI (bN (v && w)) := by cases v <;> cases w <;> rfl
section RB
variable {g mu : St} {al en bk : Nat → Nat → Bool} {F : Nat → Nat × (Nat → Nat)} {p : Nat}
theorem s_repairLoop {post : Int32 → St → Prop} {px : String → St → Prop} (hv : CSv F bk al en g) (hF : Fok F bk) (hp : p < 4)
    (h : ∀ g', kp [37 + 4 * p] [24 + p] g g' → CSv F (rpF al en p bk (((F p).1 + 3) / 4)).1 al en g' → post (nI (rpF al en p bk (((F p).1 + 3) / 4)).2) g') : lpP (fun K12 (z : Int32 × Int32 × Int32 × St) => J_X6_repair_12 (nI p) post px K12 z.1 z.2.1 z.2.2.1 z.2.2.2) (nI p, 0, 0, g) := by
  have hz := (hF p hp).1.1
  have ip : vp_in (nI p) 4 := vp_in_nI hp (by omega)
  refine lp_for (((F p).1 + 3) / 4) (fun b y => y.1 = nI p ∧ y.2.1 = nI (rpF al en p bk b).2 ∧ y.2.2.1 = nI b ∧ kp [37 + 4 * p] [24 + p] g y.2.2.2 ∧ CSv F (rpF al en p bk b).1 al en y.2.2.2) ?_ ?_ ?_
  · rintro K b ⟨y1, y2, y3, g1⟩ hb ⟨e1, e2, e3, k1, hv1⟩ hK
    dsimp only at e1 e2 e3 k1 hv1
    subst e1 e2 e3
    show J_X6_repair_12 (nI p) post px K (nI p) (nI (rpF al en p bk b).2) (nI b) g1
    have hF1 := rpF_Fok (al := al) (en := en) (p := p) hF b
    have hall : ∀ q, q < 4 → CSq q F (rpF al en p bk b).1 al en g1 := fun q hq => (hv1 q hq).1
    have es : rpF al en p bk (b + 1) = if ((rpF al en p bk b).1 p b && crN al en (rpF al en p bk b).1 p b) = true then (brkN (rpF al en p bk b).1 p b false, (rpF al en p bk b).2 + 1) else rpF al en p bk b := rfl
    generalize rpF al en p bk b = X at hv1 hF1 hall es hK ⊢
    generalize rpF al en p bk (b + 1) = Y at es hK
    unfold J_X6_repair_12 J_X6_repair_72
    rw [nI_clamp (by omega)]
    have no : (X.1 p b && crN al en X.1 p b) = false → K (nI p, nI X.2, nI b + 1, g1) := fun hn => by
      rw [if_neg (by rw [hn]; decide)] at es
      exact hK _ ⟨rfl, by rw [es], nI_up b, k1, by rw [es]; exact hv1⟩
    refine ⟨ip, s_blockCount (hall p hp).1 hz (pk_le (((F p).1 + 3) / 4) b (fun z => absurd z (by omega)) (fun _ => ⟨ip, s_isBroken (hall p hp) hF1 hp (by omega) ?_⟩))⟩
    cases hbk : X.1 p b with
    | false => exact wp_t rfl (no (by rw [hbk, Bool.false_and]))
    | true =>
      refine wp_f (by decide) ⟨ip, s_canRebuild hall hF1 hp (by omega) ?_⟩
      cases hcr : crN al en X.1 p b with
      | false => exact wp_t rfl (no (by rw [hcr, Bool.and_false]))
      | true =>
        rw [if_pos (by rw [hbk, hcr]; rfl)] at es
        have hno : ∀ q, q < 4 → al p q = true → X.1 q b = false := fun q hq ha => by
          unfold crN at hcr
          rw [Bool.and_eq_true, decide_eq_true_eq, decide_eq_true_eq] at hcr
          exact (hcr.2 q hq ha).2
        refine wp_f (by decide) ⟨ip, s_rebuild hall (hv1 p hp).2 hF1 hp (by omega) hbk hno (fun g2 k2 hq2 => hK _ ⟨rfl, ?_, nI_up b, kp_tr k1 k2, ?_⟩)⟩
        · rw [es]; exact nI_up _
        · rw [es]; exact CSv_brk hv1 k2 hp hq2
  · rintro K ⟨y1, y2, y3, g1⟩ ⟨e1, e2, e3, k1, hv1⟩
    dsimp only at e1 e2 e3 k1 hv1
    subst e1 e2 e3
    show J_X6_repair_12 (nI p) post px K (nI p) (nI (rpF al en p bk (((F p).1 + 3) / 4)).2) (nI (((F p).1 + 3) / 4)) g1
    unfold J_X6_repair_12
    rw [nI_clamp (by omega)]
    exact ⟨ip, s_blockCount (hv1 p hp).1.1 hz (pk_le (((F p).1 + 3) / 4) (((F p).1 + 3) / 4) (fun _ => h g1 k1 hv1) (fun z => absurd z (by omega)))⟩
  · exact ⟨rfl, rfl, rfl, kp_rf, hv⟩
theorem r_repairLoop {post : Int32 → St → Prop} (hv : MSv F bk al en mu) (hF : Fok F bk) (hp : p < 4)
    (h : ∀ mu', kp [13] [] mu mu' → MSv F (rpF al en p bk (((F p).1 + 3) / 4)).1 al en mu' → post (nI (rpF al en p bk (((F p).1 + 3) / 4)).2) mu') : lpP (fun K14 (z : Int32 × Int32 × Int32 × St) => J_X7_repair_14 (nI p) post K14 z.1 z.2.1 z.2.2.1 z.2.2.2) (nI p, 0, 0, mu) := by
  have hz := (hF p hp).1.1
  refine lp_for (((F p).1 + 3) / 4) (fun b y => y.1 = nI p ∧ y.2.1 = nI (rpF al en p bk b).2 ∧ y.2.2.1 = nI b ∧ kp [13] [] mu y.2.2.2 ∧ MSv F (rpF al en p bk b).1 al en y.2.2.2) ?_ ?_ ?_
  · rintro K b ⟨y1, y2, y3, g1⟩ hb ⟨e1, e2, e3, k1, hv1⟩ hK
    dsimp only at e1 e2 e3 k1 hv1
    subst e1 e2 e3
    show J_X7_repair_14 (nI p) post K (nI p) (nI (rpF al en p bk b).2) (nI b) g1
    have es : rpF al en p bk (b + 1) = if ((rpF al en p bk b).1 p b && crN al en (rpF al en p bk b).1 p b) = true then (brkN (rpF al en p bk b).1 p b false, (rpF al en p bk b).2 + 1) else rpF al en p bk b := rfl
    generalize rpF al en p bk b = X at hv1 es hK ⊢
    generalize rpF al en p bk (b + 1) = Y at es hK
    have hb16 : b < 16 := by omega
    have iv : vp_in (nI (16 * p + b)) 64 := vp_in_nI (by omega) (by omega)
    have e13 : g1.1 13 (16 * p + b) = nI (bN (X.1 p b)) := (hv1 p hp).2.2.1 b hb16
    unfold J_X7_repair_14 J_X7_repair_64
    rw [i_16, nI_clamp (by omega)]
    have no : (X.1 p b && crN al en X.1 p b) = false → K (nI p, nI X.2, nI b + 1, g1) := fun hn => by
      rw [if_neg (by rw [hn]; decide)] at es
      exact hK _ ⟨rfl, by rw [es], nI_up b, k1, by rw [es]; exact hv1⟩
    refine r_blocksOf (hv1 p hp) hz hp (pk_le (((F p).1 + 3) / 4) b (fun z => absurd z (by omega)) (fun _ => ⟨iv, ?_⟩))
    rw [e13]
    cases hbk : X.1 p b with
    | false => exact wp_t rfl (no (by rw [hbk, Bool.false_and]))
    | true =>
      refine wp_f (by decide) (r_canRebuild hv1 hp hb16 ?_)
      cases hcr : crN al en X.1 p b with
      | false => exact wp_t2 rfl (no (by rw [hcr, Bool.and_false]))
      | true =>
        rw [if_pos (by rw [hbk, hcr]; rfl)] at es
        refine wp_f2 (by decide) ⟨iv, hK _ ⟨rfl, ?_, nI_up b, kp_sA k1 (by simp), ?_⟩⟩
        · rw [es]; exact nI_up _
        · rw [es]
          have e0 : vp_nar .boolean (0 : Int32) = nI (bN false) := nar_b false
          rw [e0]
          exact MSv_brk hv1 hp hb16
  · rintro K ⟨y1, y2, y3, g1⟩ ⟨e1, e2, e3, k1, hv1⟩
    dsimp only at e1 e2 e3 k1 hv1
    subst e1 e2 e3
    show J_X7_repair_14 (nI p) post K (nI p) (nI (rpF al en p bk (((F p).1 + 3) / 4)).2) (nI (((F p).1 + 3) / 4)) g1
    unfold J_X7_repair_14
    exact r_blocksOf (hv1 p hp) hz hp (pk_le (((F p).1 + 3) / 4) (((F p).1 + 3) / 4) (fun _ => h g1 k1 hv1) (fun z => absurd z (by omega)))
  · exact ⟨rfl, rfl, rfl, kp_rf, hv⟩
end RB
section C6
variable {x1 x2 x3 : Int32} {g mu : St} {f : Nat → Int64} {fd : Nat → UInt64} {K : St → (Nat → Int64) → (Nat → UInt64) → St → Prop}
theorem case19_ok (hR : Rel g mu) (hK : ∀ g' f' fd' mu', Rel g' mu' → K g' f' fd' mu') : V_case19 x1 x2 x3 g f fd mu K := by
  obtain ⟨sd, n, t, sv, ow, kk, s0, D, m, J, tr, F, bk, al, en, hC, hM, hP⟩ := hR
  have hM0 := RM_0 (v := 0) hM
  have hF := hP.Fok
  unfold V_case19 V_L_repair V_X6_repair V_X7_repair
  rcases bad_or (n := 4) (by omega) x1 with hb | ⟨p, hp, rfl⟩
  · refine s_reqPx hb (Or.inl ⟨rfl, r_noSpx hb (wp_f (by decide) ?_)⟩)
    exact k_thr (P := fun mu7 => K _ _ fd mu7) (by decide) (sS_eq _ _ _) (hK _ _ _ _ (Rel_0 hC hM hP))
  · refine s_reqP hp ?_
    cases sv with
    | false =>
      refine s_reqSx hC.2.2.2.2.2.2.2.2.1 (Or.inr ⟨rfl, r_noSx hp hM.2.2.2.2.2.2.1 (wp_f (by decide) ?_)⟩)
      rw [sS_00]
      exact k_thr (P := fun mu7 => K _ _ fd mu7) (by decide) (sS_eq _ _ _) (hK _ _ _ _ (Rel_0 hC hM hP))
    | true =>
      refine s_reqS hC.2.2.2.2.2.2.2.2.1 (s_repairLoop hC.2.2.2.2.2.2.2.2.2 hF hp (fun g' k1 hv1 => r_noS hp hM.2.2.2.2.2.2.1 (wp_t rfl (r_repairLoop hM0.2.2.2.2.2.2.2 hF hp (fun mu' k2 hv2 => ?_)))))
      refine k_val (f := f) (P := fun mu7 => K _ _ fd mu7) ((k2.2 0 (by simp)).trans (sS_eq _ _ _)) (hK _ _ _ _ ?_)
      have hF2 := rpF_Fok (al := al) (en := en) (p := p) hF (((F p).1 + 3) / 4)
      exact Rel_mk (RC_cp hC k1 (fun k hk => by have := List.mem_singleton.mp hk; omega) (fun k hk => by have := List.mem_singleton.mp hk; omega) ((k1.2 2 (by simp <;> omega)).trans hC.2.2.2.2.2.2.2.2.1) hv1) (RM_cp hM0 k2 (fun k hk => by have := List.mem_singleton.mp hk; omega) (fun k hk => absurd hk (by simp)) ((k2.2 4 (by simp)).trans hM0.2.2.2.2.2.2.1) hv2) ⟨hP.1, hP.2.1, hP.2.2.1, hP.2.2.2.1, hP.2.2.2.2.1, hP.2.2.2.2.2.1, hP.2.2.2.2.2.2.1, fun q hq => (hF2 q hq).2⟩
theorem case20_ok (hR : Rel g mu) (hK : ∀ g' f' fd' mu', Rel g' mu' → K g' f' fd' mu') : V_case20 x1 x2 x3 g f fd mu K := by
  obtain ⟨sd, n, t, sv, ow, kk, s0, D, m, J, tr, F, bk, al, en, hC, hM, hP⟩ := hR
  have hM0 := RM_0 (v := 0) hM
  have hF := hP.Fok
  unfold V_case20 V_L_load V_X6_load V_X7_load
  rcases bad_or (n := 4) (by omega) x1 with hb | ⟨p, hp, rfl⟩
  · refine s_reqPx hb (Or.inl ⟨rfl, r_noSpx hb (wp_f (by decide) ?_)⟩)
    exact k_thr (P := fun mu7 => K _ _ fd mu7) (by decide) (sS_eq _ _ _) (hK _ _ _ _ (Rel_0 hC hM hP))
  · refine s_reqP hp ?_
    cases sv with
    | false =>
      refine s_reqSx hC.2.2.2.2.2.2.2.2.1 (Or.inr (Or.inl ⟨rfl, r_noSx hp hM.2.2.2.2.2.2.1 (wp_f (by decide) ?_)⟩))
      rw [sS_00]
      exact k_thr (P := fun mu7 => K _ _ fd mu7) (by decide) (sS_eq _ _ _) (hK _ _ _ _ (Rel_0 hC hM hP))
    | true =>
      have ip : vp_in (nI p) 4 := vp_in_nI hp (by omega)
      have hz := (hF p hp).1.1
      have hq := (hC.2.2.2.2.2.2.2.2.2 p hp).1
      have hMp := hM0.2.2.2.2.2.2.2 p hp
      have hIk := hP.2.2.2.2.2.2.1 p hp
      -- the reference: whether all blocks are whole
      have ref : ∀ {post : Int32 → St → Prop}, ((∃ i, i < ((F p).1 + 3) / 4 ∧ bk p i = true) → post 0 (sS mu 0 3)) → ((∀ i, i < ((F p).1 + 3) / 4 → bk p i = false) → ∀ mu', kx p (sS mu 0 0) mu' → MI p (F p).1 (F p).2 mu' → post (nI (F p).1) mu') → lpP (fun K14 (z : Int32 × Int32 × Int32 × St) => J_X7_load_14 (nI p) post K14 z.1 z.2.1 z.2.2.1 z.2.2.2) (nI p, 1, 0, sS mu 0 0) := fun {post} h1 h0 => by
        refine lp_for (((F p).1 + 3) / 4) (fun b y => y = (nI p, nI (bN (decide (∀ i, i < b → bk p i = false))), nI b, sS mu 0 0)) ?_ ?_ ?_
        · rintro K2 b _ hb rfl hK2
          show J_X7_load_14 (nI p) post K2 (nI p) _ (nI b) (sS mu 0 0)
          have e13 : (sS mu 0 0).1 13 (16 * p + b) = nI (bN (bk p b)) := hMp.2.2.1 b (by omega)
          have iv : vp_in (nI (16 * p + b)) 64 := vp_in_nI (by omega) (by omega)
          have hs : decide (∀ i, i < b + 1 → bk p i = false) = (decide (∀ i, i < b → bk p i = false) && !bk p b) := by
            rw [Bool.eq_iff_iff, Bool.and_eq_true, decide_eq_true_eq, decide_eq_true_eq]
            constructor
            · intro z
              refine ⟨fun i hi => z i (by omega), ?_⟩
              rw [z b (by omega)]; rfl
            · rintro ⟨z1, z2⟩ i hi
              by_cases e : i = b
              · rw [e]
                cases hb2 : bk p b with
                | false => rfl
                | true => rw [hb2] at z2; cases z2
              · exact z1 i (by omega)
          unfold J_X7_load_14 J_X7_load_43
          rw [i_16, nI_clamp (by omega)]
          refine r_blocksOf hMp hz hp (pk_le (((F p).1 + 3) / 4) b (fun z => absurd z (by omega)) (fun _ => ⟨iv, ?_⟩))
          rw [e13]
          cases hbk : bk p b with
          | false =>
            refine wp_t2 rfl (hK2 _ ?_)
            rw [hs, hbk, nI_up]
            generalize decide (∀ i, i < b → bk p i = false) = v
            show (nI p, nI (bN v) &&& nI (bN true), nI (b + 1), sS mu 0 0) = (nI p, nI (bN (v && true)), nI (b + 1), sS mu 0 0)
            rw [andB]
          | true =>
            refine wp_f2 (by decide) (hK2 _ ?_)
            rw [hs, hbk, nI_up]
            generalize decide (∀ i, i < b → bk p i = false) = v
            show (nI p, nI (bN v) &&& nI (bN false), nI (b + 1), sS mu 0 0) = (nI p, nI (bN (v && false)), nI (b + 1), sS mu 0 0)
            rw [andB]
        · rintro K2 _ rfl
          show J_X7_load_14 (nI p) post K2 (nI p) _ (nI (((F p).1 + 3) / 4)) (sS mu 0 0)
          unfold J_X7_load_14
          refine r_blocksOf hMp hz hp (pk_le (((F p).1 + 3) / 4) (((F p).1 + 3) / 4) (fun _ => ?_) (fun z => absurd z (by omega)))
          by_cases hall : ∀ i, i < ((F p).1 + 3) / 4 → bk p i = false
          · rw [decide_eq_true hall]
            refine r_no1 (wp_t rfl ?_)
            rw [sS_00]
            have h0 := h0 hall
            refine lp_for 61 (fun k y => y.1 = nI p ∧ y.2.1 = nI k ∧ kx p (sS mu 0 0) y.2.2 ∧ y.2.2.1 10 = (sS mu 0 0).1 10 ∧ ∀ j, j < k → y.2.2.1 9 (61 * p + j) = (sS mu 0 0).1 11 (61 * p + j)) ?_ ?_ ⟨rfl, rfl, kx_rf, rfl, fun j hj => absurd hj (by omega)⟩
            · rintro K3 k ⟨y1, y2, g3⟩ hk ⟨e1, e2, k3, c3, h3⟩ hK3
              dsimp only at e1 e2 k3 c3 h3
              subst e1 e2
              show J_X7_load_64 (nI p) post K3 (nI p) (nI k) g3
              have iv : vp_in (nI (61 * p + k)) 244 := vp_in_nI (by omega) (by omega)
              unfold J_X7_load_64
              rw [i_61, nI_clamp (n := 61 * p + k) (by omega), k3.1.1 11 (by simp)]
              refine pk_le 61 k (fun z => absurd z (by omega)) (fun _ => ⟨iv, iv, hK3 _ ⟨rfl, nI_up k, kx_9 k3 hk, ?_, fun j hj => ?_⟩⟩)
              · show (sA g3 9 _).1 10 = _
                rw [sA_ne _ _ (by decide)]; exact c3
              · show (sA g3 9 _).1 9 (61 * p + j) = _
                rw [sA_eq]
                unfold upd
                by_cases e : j = k
                · rw [e, if_pos rfl]
                · rw [if_neg (by omega)]; exact h3 j (by omega)
            · rintro K3 ⟨y1, y2, g3⟩ ⟨e1, e2, k3, c3, h3⟩
              dsimp only at e1 e2 k3 c3 h3
              subst e1 e2
              show J_X7_load_64 (nI p) post K3 (nI p) (nI 61) g3
              have e12 : g3.1 12 p = nI (F p).1 := by rw [k3.1.1 12 (by simp)]; exact hMp.1
              unfold J_X7_load_64
              rw [nI_clamp (n := p) (by omega), e12, sA_eq, pk_us]
              refine pk_le 61 61 (fun _ => ⟨ip, ip, ip, h0 _ (kx_10 k3) ⟨?_, fun k hk => ?_⟩⟩) (fun z => absurd z (by omega))
              · rw [sA_eq]; exact pk_us
              · rw [sA_ne _ _ (by decide), h3 k (by omega)]
                exact hMp.2.1 k hk
          · rw [decide_eq_false hall]
            refine r_no0 (wp_f (by decide) ?_)
            rw [sS_00]
            refine h1 ?_
            by_cases ex : ∃ i, i < ((F p).1 + 3) / 4 ∧ bk p i = true
            · exact ex
            · exfalso
              refine hall (fun i hi => ?_)
              cases hb2 : bk p i with
              | false => rfl
              | true => exact absurd ⟨i, hi, hb2⟩ ex
        · have e : decide (∀ i : Nat, i < 0 → bk p i = false) = true := decide_eq_true (fun i hi => absurd hi (by omega))
          rw [e]
          rfl
      refine s_reqS hC.2.2.2.2.2.2.2.2.1 ⟨ip, ?_⟩
      rw [nI_clamp (by omega)]
      refine s_anyBroken hq (fun ⟨i, hi, hbi⟩ => ?_) (fun hno => ?_)
      · have hi2 : i < ((F p).1 + 3) / 4 := by
          by_cases e : i < ((F p).1 + 3) / 4
          · exact e
          · have := (hF p hp).2 i (by omega)
            rw [hbi] at this
            cases this
        refine wp_f (by decide) (Or.inr (Or.inr ⟨rfl, r_noS hp hM.2.2.2.2.2.2.1 (wp_t rfl (ref (fun _ => ?_) (fun hall => ?_)))⟩))
        · exact k_thr (P := fun mu7 => K _ _ fd mu7) (by decide) (sS_eq _ _ _) (hK _ _ _ _ (Rel_0 hC hM hP))
        · have := hall i hi2
          rw [hbi] at this
          cases this
      · refine wp_t rfl ⟨ip, ip, s_writeTo hq hF hp hIk.2.2 hno (fun g' k1 hI1 => ⟨ip, r_noS hp hM.2.2.2.2.2.2.1 (wp_t rfl (ref (fun ⟨i, hi, hbi⟩ => ?_) (fun hall mu' k2 hI2 => ?_)))⟩)⟩
        · have := hno i (by omega)
          rw [hbi] at this
          cases this
        · rw [hI1.1]
          refine k_val (f := f) (P := fun mu7 => K _ _ fd mu7) ((k2.1.2 0 (by simp)).trans (sS_eq _ _ _)) (hK _ _ _ _ ?_)
          obtain ⟨a1, a2, a3, a4, a5, a6, a7, a8, a9, a10⟩ := hC
          obtain ⟨b1, b2, b3, b4, b5, b6, b7, b8⟩ := hM0
          obtain ⟨p1, p2, p3, p5, p6, p7, p8, p9⟩ := hP
          have k3 := k2.1
          obtain ⟨J', eJ⟩ : ∃ J' : Nat → Nat × (Nat → Nat), J' = fun q => if q = p then F p else J q := ⟨_, rfl⟩
          have Js : J' p = F p := by rw [eJ]; exact if_pos rfl
          have Jn : ∀ q, q ≠ p → J' q = J q := fun q e => by rw [eJ]; exact if_neg e
          refine ⟨sd, n, t, true, ow, kk, s0, D, m, J', tr, F, bk, al, en, ⟨CUs_kp a1 k1 (by simp <;> omega) (by simp <;> omega) (by simp <;> omega) (by simp <;> omega), (k1.2 0 (by simp <;> omega)).trans a2, CUc_kp a3 k1 (by simp <;> omega), fun v hv => by rw [k1.1 7 (by simp <;> omega)]; exact a4 v hv, (k1.2 1 (by simp <;> omega)).trans a5, COall_kp a6 k1 (by simp <;> omega) (by simp <;> omega), fun r hr => ?_, CT_kp a8 k1 (by simp <;> omega), (k1.2 2 (by simp <;> omega)).trans a9, CSv_kp a10 k1 (fun k hk => by have := List.mem_singleton.mp hk; omega) (fun k hk => by have := List.mem_singleton.mp hk; omega)⟩, ⟨MUs_kp b1 k3 (by simp) (by simp) (by simp) (by simp), MUc_kp b2 k3 (by simp), (k3.2 3 (by simp)).trans b3, MOall_kp b4 k3 (by simp) (by simp) (by simp), MXI_kx b5 (fun r hr => (p6 r hr).1) k2 (by rw [Js]; exact hI2) (fun r _ e => Jn r e), MT_kp b6 k3 (by simp), (k3.2 4 (by simp)).trans b7, MSv_kp b8 k3 (by simp) (by simp) (by simp) (by simp) (by simp)⟩, ⟨p1, p2, p3, p5, fun r hr => ?_, p7, p8, p9⟩⟩
          · by_cases e : r = p
            · rw [e, Js]; exact hI1
            · rw [Jn r e]
              exact CI_kp (a7 r hr) k1 (by simp <;> omega) (by simp <;> omega)
          · by_cases e : r = p
            · rw [e, Js]; exact p8 p hp
            · rw [Jn r e]; exact p6 r hr
end C6
