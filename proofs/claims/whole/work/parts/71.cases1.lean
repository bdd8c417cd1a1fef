/-! PART 71: the calls that only read, on both sides -/
section C1
variable {x1 x2 x3 : Int32} {g mu : St} {f : Nat → Int64} {fd : Nat → UInt64} {K : St → (Nat → Int64) → (Nat → UInt64) → St → Prop}
theorem sS_00 {mu : St} {v w : Int32} : sS (sS mu 0 v) 0 w = sS mu 0 w := by
  unfold sS
  congr 1
  funext k
  dsimp only
  split <;> rfl
theorem case0_ok (hR : Rel g mu) (hK : ∀ g' f' fd' mu', Rel g' mu' → K g' f' fd' mu') : V_case0 x1 x2 x3 g f fd mu K := by
  obtain ⟨sd, n, t, sv, ow, kk, s0, D, m, J, tr, F, bk, al, en, hC, hM, hP⟩ := hR
  obtain ⟨a1, a2, a3, a4, a5, a6, a7, a8, a9, a10⟩ := hC
  have h24 := a1.2.1
  have e3 : g.2 3 = nI n := a1.1
  unfold V_case0 V_L_setSeed V_X6_setSeed V_X7_setSeed J_X7_setSeed_13
  rw [e3]
  refine pk_le n 0 (fun hn => ?_) (fun hn => ⟨rfl, ?_⟩)
  · have hn : n = 0 := by omega
    subst hn
    refine s_grow ?_
    rw [hM.1.2.1]
    refine wp_t2 rfl (r_no1 (wp_t rfl ?_))
    have e1 : (sS mu 0 0).2 1 = sd := (sS_ne _ _ (by decide)).trans hM.1.1
    rw [e1, a2]
    refine k_val (f := f) (P := fun mu7 => K _ _ fd mu7) ((sS_ne _ _ (by decide)).trans (sS_eq _ _ _)) (hK _ _ _ _ ?_)
    obtain ⟨b1, b2, b3, b4, b5, b6, b7, b8⟩ := hM
    have k1 : kp [3] [0] g (sA (sS g 0 x1) (3 + 10 * 0) (fun c => if c < 64 then nI (gN x1 c) else (sS g 0 x1).1 (3 + 10 * 0) c)) := kp_sA (kp_sS kp_rf (by simp)) (by simp)
    have k2 : kp [] [0, 1] mu (sS (sS mu 0 0) 1 x1) := kp_sS (kp_sS kp_rf (by simp)) (by simp)
    refine Rel_mk (sd := x1) (n := 0) (t := t) (sv := sv) (ow := ow) (kk := kk) (s0 := s0) (D := D) (m := m) (J := J) (tr := tr) (F := F) (bk := bk) (al := al) (en := en) ⟨⟨(k1.2 3 (by simp)).trans a1.1, by omega, fun i hi => ?_, fun u hu => absurd hu (by omega)⟩, ?_, fun u hu => absurd hu (by omega), fun u hu => absurd hu (by omega), (k1.2 1 (by simp)).trans a5, COall_kp a6 k1 (by simp) (by simp), fun p hp => CI_kp (a7 p hp) k1 (by simp <;> omega) (by simp <;> omega), CT_kp a8 k1 (by simp), (k1.2 2 (by simp)).trans a9, CSv_kp a10 k1 (fun k hk => by simp at hk; omega) (fun k hk => by simp at hk; omega)⟩ ⟨⟨sS_eq _ _ _, (k2.2 2 (by simp)).trans b1.2.1, by omega, fun u hu => absurd hu (by omega)⟩, fun u hu => absurd hu (by omega), (k2.2 3 (by simp)).trans b3, MOall_kp b4 k2 (by simp) (by simp) (by simp), fun p hp => MI_kp (b5 p hp) k2 (by simp) (by simp), MT_kp b6 k2 (by simp), (k2.2 4 (by simp)).trans b7, MSv_kp b8 k2 (by simp) (by simp) (by simp) (by simp) (by simp)⟩ hP
    · rw [sA_eq]; exact if_pos hi
    · show (sS g 0 x1).2 0 = x1
      exact sS_eq _ _ _
  · rw [hM.1.2.1]
    refine wp_f2 (nI_ne0 hn (by omega)) (r_no0 (wp_f (by decide) ?_))
    exact k_thr (P := fun mu7 => K _ _ fd mu7) (by decide) (sS_eq _ _ _) (hK _ _ _ _ (Rel_0 ⟨a1, a2, a3, a4, a5, a6, a7, a8, a9, a10⟩ hM hP))
theorem case1_ok (hR : Rel g mu) (hK : ∀ g' f' fd' mu', Rel g' mu' → K g' f' fd' mu') : V_case1 x1 x2 x3 g f fd mu K := by
  obtain ⟨sd, n, t, sv, ow, kk, s0, D, m, J, tr, F, bk, al, en, hC, hM, hP⟩ := hR
  unfold V_case1 V_L_ground V_X6_ground V_X7_ground
  rcases bad_or (n := 64) (by omega) x1 with hb | ⟨c, hc, rfl⟩
  · refine s_reqCx hb ⟨rfl, r_isCellx hb (r_no0 (wp_f (by decide) ?_))⟩
    exact k_thr (P := fun mu7 => K _ _ fd mu7) (by decide) (sS_eq _ _ _) (hK _ _ _ _ (Rel_0 hC hM hP))
  · refine s_reqC hc (s_at (hC.1.2.2.1 c hc) hc ⟨(pk_charN (gN_lt sd c)).1, r_isCell hc (r_no1 (wp_t rfl (r_ground hc ?_)))⟩)
    have e1 : (sS mu 0 0).2 1 = sd := (sS_ne _ _ (by decide)).trans hM.1.1
    rw [e1]
    refine ⟨(pk_charN (gN_lt sd c)).1, ?_⟩
    exact k_val (f := f) (P := fun mu7 => K _ _ fd mu7) (sS_eq _ _ _) (hK _ _ _ _ (Rel_0 hC hM hP))
theorem case5_ok (hR : Rel g mu) (hK : ∀ g' f' fd' mu', Rel g' mu' → K g' f' fd' mu') : V_case5 x1 x2 x3 g f fd mu K := by
  obtain ⟨sd, n, t, sv, ow, kk, s0, D, m, J, tr, F, bk, al, en, hC, hM, hP⟩ := hR
  unfold V_case5 V_X6_done V_X7_done
  rw [hC.2.2.2.2.1, hM.2.2.1]
  exact wp_t rfl (hK _ _ _ _ (Rel_mk hC hM hP))
theorem case6_ok (hR : Rel g mu) (hK : ∀ g' f' fd' mu', Rel g' mu' → K g' f' fd' mu') : V_case6 x1 x2 x3 g f fd mu K := by
  obtain ⟨sd, n, t, sv, ow, kk, s0, D, m, J, tr, F, bk, al, en, hC, hM, hP⟩ := hR
  have h24 := hC.1.2.1
  unfold V_case6 V_L_cellOf V_X6_cellOf V_X7_cellOf
  rcases bad_or (n := n) (by omega) x1 with hb | ⟨u, hu, rfl⟩
  · refine s_reqUx hC.1.1 hb ⟨rfl, r_noUx hM.1.2.1 hb (wp_f (by decide) ?_)⟩
    exact k_thr (P := fun mu7 => K _ _ fd mu7) (by decide) (sS_eq _ _ _) (hK _ _ _ _ (Rel_0 hC hM hP))
  · refine s_reqU hC.1.1 h24 hu (s_place hC.1.1 h24 hu (r_noU hM.1.2.1 h24 hu (wp_t rfl ⟨vp_in_nI (by omega) (by omega), ?_⟩)))
    have e1 : g.1 (8 + 10 * 0) u = iI 64 (posH n ow kk sd s0 D t u) := hC.2.2.1 u hu
    have e2 : (sS mu 0 0).1 2 u = iI 64 (posH n ow kk sd s0 D t u) := hM.2.1 u hu
    rw [nI_clamp (by omega), e1, e2]
    exact k_val (f := f) (P := fun mu7 => K _ _ fd mu7) (sS_eq _ _ _) (hK _ _ _ _ (Rel_0 hC hM hP))
theorem s_onC {n x : Nat} {c : Nat → Nat} {post : Int32 → St → Prop} (hn : g.2 (3 + 0) = nI n) (h24 : n ≤ 24) (hc : CUc 0 n c g) (hx : x < 64) (h : post (iI n (fN (fun u => decide (c u = x)) n)) g) : V_X5_on 0 (nI x) g post := by
  refine s_on hn h24 (nI_m1 (by omega)) ?_
  rw [fN_cong (q := fun v => decide (c v = x)) (fun v hv => by
    rw [hc v hv]
    exact decide_eq_decide.mpr (iI_nI (by decide) hx))]
  exact h
theorem r_on {n x : Nat} {c : Nat → Nat} {post : Int32 → St → Prop} (hn : mu.2 2 = nI n) (h24 : n ≤ 24) (hc : MUc n c mu) (hx : x < 64) (h : post (iI n (fN (fun u => decide (c u = x)) n)) mu) : V_X7_on (nI x) mu post := by
  unfold V_X7_on
  refine lp_for n (fun k z => z = (nI x, nI k, mu) ∧ post (iI n (fNf (fun u => decide (c u = x)) (n - k) k)) mu) ?_ ?_ ⟨rfl, h⟩
  · rintro K2 k _ hk ⟨rfl, hp⟩ hK2
    show J_X7_on_2 (nI x) post K2 (nI x) (nI k) mu
    unfold J_X7_on_2
    rw [hn, nI_clamp (by omega), hc k hk]
    refine pk_le n k (fun z => absurd z (by omega)) (fun _ => ⟨vp_in_nI (by omega) (by omega), ?_⟩)
    rw [fNf_step _ hk] at hp
    by_cases e : c k = x
    · rw [if_pos (decide_eq_true e), iI_in hk] at hp
      exact wp_t2 (by rw [e, iI_in hx]) hp
    · rw [if_neg (by simpa using e)] at hp
      exact wp_f2 (fun z => e ((iI_nI (by decide) hx).mp z)) (hK2 _ ⟨by rw [nI_up], hp⟩)
  · rintro K2 _ ⟨rfl, hp⟩
    show J_X7_on_2 (nI x) post K2 (nI x) (nI n) mu
    unfold J_X7_on_2
    rw [hn]
    rw [fNf_end, iI_out (Nat.le_refl _)] at hp
    exact pk_le n n (fun _ => hp) (fun z => absurd z (by omega))
theorem case7_ok (hR : Rel g mu) (hK : ∀ g' f' fd' mu', Rel g' mu' → K g' f' fd' mu') : V_case7 x1 x2 x3 g f fd mu K := by
  obtain ⟨sd, n, t, sv, ow, kk, s0, D, m, J, tr, F, bk, al, en, hC, hM, hP⟩ := hR
  have h24 := hC.1.2.1
  unfold V_case7 V_L_unitOn V_X6_unitOn V_X7_unitOn
  rcases bad_or (n := 64) (by omega) x1 with hb | ⟨c, hc, rfl⟩
  · refine s_reqCx hb ⟨rfl, r_isCellx hb (r_no0 (wp_f (by decide) ?_))⟩
    exact k_thr (P := fun mu7 => K _ _ fd mu7) (by decide) (sS_eq _ _ _) (hK _ _ _ _ (Rel_0 hC hM hP))
  · refine s_reqC hc (s_onC hC.1.1 h24 hC.2.2.1 hc (r_isCell hc (r_no1 (wp_t rfl (r_on (n := n) (c := posH n ow kk sd s0 D t) hM.1.2.1 h24 hM.2.1 hc ?_)))))
    exact k_val (f := f) (P := fun mu7 => K _ _ fd mu7) (sS_eq _ _ _) (hK _ _ _ _ (Rel_0 hC hM hP))
theorem case8_ok (hR : Rel g mu) (hK : ∀ g' f' fd' mu', Rel g' mu' → K g' f' fd' mu') : V_case8 x1 x2 x3 g f fd mu K := by
  obtain ⟨sd, n, t, sv, ow, kk, s0, D, m, J, tr, F, bk, al, en, hC, hM, hP⟩ := hR
  have h24 := hC.1.2.1
  have hCk := posH_ok (ow := ow) (kk := kk) (sd := sd) (D := D) h24 hP.2.1 t
  have hM0 := RM_0 (v := 0) hM
  unfold V_case8 V_L_sees V_X6_sees V_X7_sees J_X7_sees_24 J_X7_sees_25
  rcases bad_or (n := n) (by omega) x1 with hb | ⟨u, hu, rfl⟩
  · refine s_reqUx hC.1.1 hb ⟨rfl, ?_⟩
    rw [hM.1.2.1]
    refine bad_le hb (r_no0 (wp_f2 (by decide) ?_)) (r_no0 (wp_f2 (by decide) ?_))
    · exact k_thr (P := fun mu7 => K _ _ fd mu7) (by decide) (sS_eq _ _ _) (hK _ _ _ _ (Rel_0 hC hM hP))
    · exact k_thr (P := fun mu7 => K _ _ fd mu7) (by decide) (sS_eq _ _ _) (hK _ _ _ _ (Rel_0 hC hM hP))
  · refine s_reqU hC.1.1 h24 hu ?_
    rcases bad_or (n := 64) (by omega) x2 with hb | ⟨c, hc, rfl⟩
    · refine s_reqCx hb ⟨rfl, ?_⟩
      rw [hM.1.2.1]
      refine gd_le hu (by omega) (r_isCellx hb (wp_t rfl (r_no0 (wp_f2 (by decide) ?_))))
      exact k_thr (P := fun mu7 => K _ _ fd mu7) (by decide) (sS_eq _ _ _) (hK _ _ _ _ (Rel_0 hC hM hP))
    · refine s_reqC hc (s_unitSpots hC.1 hC.2.2.1 (hCk.1 u hu) hu hc ?_)
      have lk : ∀ {post : Int32 → St → Prop}, post (if posH n ow kk sd s0 D t u < 64 ∧ seeN sd (kk u) (posH n ow kk sd s0 D t u) c = true then 1 else 0) (sS mu 0 0) → V_X7_looksAt (nI u) (nI c) (sS mu 0 0) post := fun h => r_looks hM0.1 hM0.2.1 (hCk.1 u hu) hu hc h
      by_cases hs : posH n ow kk sd s0 D t u < 64 ∧ seeN sd (kk u) (posH n ow kk sd s0 D t u) c = true
      · rw [if_pos hs] at lk ⊢
        refine ⟨rfl, wp_f (by decide) ?_⟩
        rw [hM.1.2.1]
        refine gd_le hu (by omega) (r_isCell hc (wp_f (by decide) (r_no1 (wp_t2 rfl (lk (wp_f (by decide) ?_))))))
        exact k_bool (f := f) (r := true) (P := fun mu7 => K _ _ fd mu7) (sS_eq _ _ _) (hK _ _ _ _ (Rel_0 hC hM hP))
      · rw [if_neg hs] at lk ⊢
        refine ⟨rfl, wp_t rfl ?_⟩
        rw [hM.1.2.1]
        refine gd_le hu (by omega) (r_isCell hc (wp_f (by decide) (r_no1 (wp_t2 rfl (lk (wp_t rfl ?_))))))
        exact k_bool (f := f) (r := false) (P := fun mu7 => K _ _ fd mu7) (sS_eq _ _ _) (hK _ _ _ _ (Rel_0 hC hM hP))
theorem case9_ok (hR : Rel g mu) (hK : ∀ g' f' fd' mu', Rel g' mu' → K g' f' fd' mu') : V_case9 x1 x2 x3 g f fd mu K := by
  obtain ⟨sd, n, t, sv, ow, kk, s0, D, m, J, tr, F, bk, al, en, hC, hM, hP⟩ := hR
  have h24 := hC.1.2.1
  have hCk := posH_ok (ow := ow) (kk := kk) (sd := sd) (D := D) h24 hP.2.1 t
  have hM0 := RM_0 (v := 0) hM
  unfold V_case9 V_L_seen V_X6_seen V_X7_seen
  rcases bad_or (n := 4) (by omega) x1 with hb | ⟨p, hp, rfl⟩
  · refine s_reqPx hb ⟨rfl, r_noPx hb (wp_f (by decide) ?_)⟩
    exact k_thr (P := fun mu7 => K _ _ fd mu7) (by decide) (sS_eq _ _ _) (hK _ _ _ _ (Rel_0 hC hM hP))
  · refine s_reqP hp ?_
    refine lp_for 64 (fun k y => y = (nI p, nI (fb_ct (fun x => wchN n sd ow kk (posH n ow kk sd s0 D t) p x) k), nI k, g)) ?_ ?_ rfl
    · rintro K2 k _ hk rfl hK2
      show J_X6_seen_8 (nI p) _ _ K2 (nI p) (nI _) (nI k) g
      unfold J_X6_seen_8 J_X6_seen_29
      refine pk_le 64 k (fun z => absurd z (by omega)) (fun _ => s_playerSpots hC.1 hC.2.2.1 hCk.1 hp hk ?_)
      have es := fb_ct_succ (fun x => wchN n sd ow kk (posH n ow kk sd s0 D t) p x) k
      cases hw : wchN n sd ow kk (posH n ow kk sd s0 D t) p k with
      | false =>
        refine wp_t rfl (hK2 _ ?_)
        rw [es, hw, nI_up]
        rfl
      | true =>
        refine wp_f (by decide) (hK2 _ ?_)
        rw [es, hw, nI_up, nI_up]
        rfl
    · rintro K2 _ rfl
      show J_X6_seen_8 (nI p) _ _ K2 (nI p) (nI _) (nI 64) g
      unfold J_X6_seen_8
      refine pk_le 64 64 (fun _ => r_noP hp (wp_t rfl ?_)) (fun z => absurd z (by omega))
      refine lp_for 64 (fun k y => y = (nI p, nI (fb_ct (fun x => wchN n sd ow kk (posH n ow kk sd s0 D t) p x) k), nI k, sS mu 0 0)) ?_ ?_ rfl
      · rintro K3 k _ hk rfl hK3
        show J_X7_seen_14 (nI p) _ K3 (nI p) (nI _) (nI k) (sS mu 0 0)
        unfold J_X7_seen_14 J_X7_seen_35
        refine pk_le 64 k (fun z => absurd z (by omega)) (fun _ => r_watches hM0.1 hM0.2.1 hCk.1 hp hk ?_)
        have es := fb_ct_succ (fun x => wchN n sd ow kk (posH n ow kk sd s0 D t) p x) k
        cases hw : wchN n sd ow kk (posH n ow kk sd s0 D t) p k with
        | false =>
          refine wp_t rfl (hK3 _ ?_)
          rw [es, hw, nI_up, show ∀ a : Int32, a + 0 = a from Int32.add_zero]
          rfl
        | true =>
          refine wp_f (by decide) (hK3 _ ?_)
          rw [es, hw, nI_up, nI_up]
          rfl
      · rintro K3 _ rfl
        show J_X7_seen_14 (nI p) _ K3 (nI p) (nI _) (nI 64) (sS mu 0 0)
        unfold J_X7_seen_14
        refine pk_le 64 64 (fun _ => ?_) (fun z => absurd z (by omega))
        exact k_val (f := f) (P := fun mu7 => K _ _ fd mu7) (sS_eq _ _ _) (hK _ _ _ _ (Rel_0 hC hM hP))
theorem case11_ok (hR : Rel g mu) (hK : ∀ g' f' fd' mu', Rel g' mu' → K g' f' fd' mu') : V_case11 x1 x2 x3 g f fd mu K := by
  obtain ⟨sd, n, t, sv, ow, kk, s0, D, m, J, tr, F, bk, al, en, hC, hM, hP⟩ := hR
  have hM0 := RM_0 (v := 0) hM
  unfold V_case11 V_L_sightings V_X6_sightings V_X7_sightings
  rcases bad_or (n := 4) (by omega) x1 with hb | ⟨p, hp, rfl⟩
  · refine s_reqPx hb ⟨rfl, r_noPx hb (wp_f (by decide) ?_)⟩
    exact k_thr (P := fun mu7 => K _ _ fd mu7) (by decide) (sS_eq _ _ _) (hK _ _ _ _ (Rel_0 hC hM hP))
  · refine s_reqP hp ⟨vp_in_nI hp (by omega), r_noP hp (wp_t rfl ⟨vp_in_nI hp (by omega), ?_⟩)⟩
    rw [nI_clamp (by omega), (hC.2.2.2.2.2.2.1 p hp).1, (hM0.2.2.2.2.1 p hp).1]
    exact k_val (f := f) (P := fun mu7 => K _ _ fd mu7) (sS_eq _ _ _) (hK _ _ _ _ (Rel_0 hC hM hP))
end C1
