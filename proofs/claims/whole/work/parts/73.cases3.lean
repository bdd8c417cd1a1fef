/-! PART 73: saves: their calls -/
abbrev ksC : List Nat := [37, 38, 39, 41, 42, 43, 45, 46, 47, 49, 50, 51]
abbrev ssC : List Nat := [20, 21, 22, 23, 24, 25, 26, 27, 28, 29, 30, 31, 32, 33, 34, 35]
theorem pC4 {p : Nat} (h : p < 4) : 37 + 4 * p ∈ ksC ∧ 38 + 4 * p ∈ ksC ∧ 39 + 4 * p ∈ ksC ∧ 20 + p ∈ ssC ∧ 24 + p ∈ ssC ∧ 28 + p ∈ ssC ∧ 32 + p ∈ ssC := by
  rcases (show p = 0 ∨ p = 1 ∨ p = 2 ∨ p = 3 by omega) with rfl | rfl | rfl | rfl <;> decide
theorem ksC_ge {k : Nat} (h : k ∈ ksC) : 36 ≤ k ∧ k ≤ 51 := by simp at h; omega
theorem ssC_ge {k : Nat} (h : k ∈ ssC) : 20 ≤ k ∧ k ≤ 35 := by simp at h; omega
section SV
variable {g g' : St} {J F : Nat → Nat × (Nat → Nat)} {tr bk al en : Nat → Nat → Bool}
theorem s_save {post : Int32 → St → Prop} (hI : CXI J g) (hb : ∀ p, p < 4 → Ibd (J p).1 (J p).2) (ht : CT tr g)
    (h : ∀ g', kp ksC (2 :: ssC) g g' → g'.2 2 = nI (bN true) → CSv J (fun _ _ => false) tr (fun _ _ => false) g' → post (nI ((J 0).1 + (J 1).1 + (J 2).1 + (J 3).1)) g') : V_X6_save g post := by
  unfold V_X6_save
  refine lp_for 4 (fun k y => y.1 = nI (fb_sm (fun p => (J p).1) k) ∧ y.2.1 = nI k ∧ kp ksC ssC g y.2.2 ∧ ∀ p, p < k → CSq p J (fun _ _ => false) tr (fun _ _ => false) y.2.2) ?_ ?_ ⟨rfl, rfl, kp_rf, fun p hp => absurd hp (by omega)⟩
  · rintro K p ⟨y1, y2, g1⟩ hp ⟨e1, e2, k1, h1⟩ hK
    dsimp only at e1 e2 k1 h1
    subst e1 e2
    show J_X6_save_4 post K (nI (fb_sm (fun p => (J p).1) p)) (nI p) g1
    have ip : vp_in (nI p) 4 := vp_in_nI hp (by omega)
    have hIp : CI p (J p).1 (J p).2 g1 := CI_kp (hI p hp) k1 (fun z => by have := ksC_ge z; omega) (fun z => by have := ssC_ge z; omega)
    have htp : ∀ i, i < 32 → bt (g1.1 26 p) i = (decide (i < 4) && tr p i) := by
      rw [k1.1 26 (fun z => by have := ksC_ge z; omega)]
      exact ht p hp
    unfold J_X6_save_4
    rw [nI_clamp (by omega)]
    refine pk_le 4 p (fun z => absurd z (by omega)) (fun _ => ⟨ip, ip, ip, s_take (F := J) (tr := tr) hp hIp (hb p hp) htp (fun g2 k2 h2 => ⟨ip, hK _ ⟨?_, nI_up p, kp_tr k1 (kp_up k2 ?_ ?_), ?_⟩⟩)⟩)
    · show nI (fb_sm (fun p => (J p).1) p) + g2.2 (20 + p) = _
      rw [h2.1, nI_add]
      rfl
    · intro k hk
      obtain ⟨c1, c2, c3, c4, c5, c6, c7⟩ := pC4 hp
      rcases List.mem_cons.mp hk with e | e
      · rw [e]; exact c1
      · rw [List.mem_singleton.mp e]; exact c3
    · intro k hk
      obtain ⟨c1, c2, c3, c4, c5, c6, c7⟩ := pC4 hp
      rcases List.mem_cons.mp hk with e | e
      · rw [e]; exact c4
      · rcases List.mem_cons.mp e with e | e
        · rw [e]; exact c5
        · rcases List.mem_cons.mp e with e | e
          · rw [e]; exact c6
          · rw [List.mem_singleton.mp e]; exact c7
    · intro q hq
      by_cases e : q = p
      · rw [e]; exact h2
      · exact CSq_kp (h1 q (by omega)) k2 (by simp <;> omega) (by simp <;> omega) (by simp <;> omega) (by simp <;> omega) (by simp <;> omega) (by simp <;> omega)
  · rintro K ⟨y1, y2, g1⟩ ⟨e1, e2, k1, h1⟩
    dsimp only at e1 e2 k1 h1
    subst e1 e2
    show J_X6_save_4 post K (nI (fb_sm (fun p => (J p).1) 4)) (nI 4) g1
    unfold J_X6_save_4
    refine pk_le 4 4 (fun _ => ?_) (fun z => absurd z (by omega))
    have es : fb_sm (fun p => (J p).1) 4 = (J 0).1 + (J 1).1 + (J 2).1 + (J 3).1 := by
      show 0 + (J 0).1 + (J 1).1 + (J 2).1 + (J 3).1 = _
      omega
    rw [es]
    refine lp_for 4 (fun k y => y.1 = nI ((J 0).1 + (J 1).1 + (J 2).1 + (J 3).1) ∧ y.2.1 = nI k ∧ kp ksC ssC g y.2.2 ∧ (∀ p, p < 4 → CSq p J (fun _ _ => false) tr (fun _ _ => false) y.2.2) ∧ ∀ p, p < k → CPa p J tr y.2.2) ?_ ?_ ⟨rfl, rfl, k1, h1, fun p hp => absurd hp (by omega)⟩
    · rintro K2 p ⟨y1, y2, g2⟩ hp ⟨e1, e2, k2, h2, h3⟩ hK2
      dsimp only at e1 e2 k2 h2 h3
      subst e1 e2
      show J_X6_save_50 post K2 (nI _) (nI p) g2
      unfold J_X6_save_50
      rw [nI_clamp (by omega)]
      refine pk_le 4 p (fun z => absurd z (by omega)) (fun _ => ⟨vp_in_nI hp (by omega), s_keepParity h2 (fun q hq => (hb q hq).1) hp (fun g3 k3 h4 => hK2 _ ⟨rfl, nI_up p, kp_tr k2 (kp_up k3 (fun k hk => by rw [List.mem_singleton.mp hk]; exact (pC4 hp).2.1) (fun k hk => absurd hk (by simp))), fun q hq => CSq_kp (h2 q hq) k3 (by simp <;> omega) (by simp <;> omega) (by simp) (by simp) (by simp) (by simp), fun q hq => ?_⟩)⟩)
      by_cases e : q = p
      · rw [e]; exact h4
      · exact CPa_kp (h3 q (by omega)) k3 (by simp <;> omega)
    · rintro K2 ⟨y1, y2, g2⟩ ⟨e1, e2, k2, h2, h3⟩
      dsimp only at e1 e2 k2 h2 h3
      subst e1 e2
      show J_X6_save_50 post K2 (nI _) (nI 4) g2
      unfold J_X6_save_50
      refine pk_le 4 4 (fun _ => h _ (kp_sS (kp_up k2 (fun _ z => z) (fun k hk => List.mem_cons_of_mem _ hk)) (List.mem_cons_self ..)) (sS_eq _ _ _) ?_) (fun z => absurd z (by omega))
      have k9 : kp [] [2] g2 (sS g2 2 1) := kp_sS kp_rf (by simp)
      exact fun p hp => ⟨CSq_kp (h2 p hp) k9 (by simp) (by simp) (by simp <;> omega) (by simp <;> omega) (by simp <;> omega) (by simp <;> omega), CPa_kp (h3 p hp) k9 (by simp)⟩
theorem CSq_bk {q : Nat} {bk' : Nat → Nat → Bool} (h : CSq q F bk al en g) (e : ∀ i, bk' q i = bk q i) : CSq q F bk' al en g := by
  unfold CSq
  simp only [e]
  exact h
theorem CSv_brk {p b : Nat} {v : Bool} (h : CSv F bk al en g) (hk : kp [37 + 4 * p] [24 + p] g g') (hp : p < 4) (hq : CSq p F (brkN bk p b v) al en g') : CSv F (brkN bk p b v) al en g' := fun q hq4 => by
  refine ⟨?_, CPa_kp (h q hq4).2 hk (by simp <;> omega)⟩
  by_cases e : q = p
  · rw [e]; exact hq
  · exact CSq_bk (CSq_kp (h q hq4).1 hk (by simp <;> omega) (by simp <;> omega) (by simp <;> omega) (by simp <;> omega) (by simp <;> omega) (by simp <;> omega)) (fun i => brkN_q e)
theorem MSv_brk {p b : Nat} {v : Bool} (h : MSv F bk al en g) (hp : p < 4) (hb : b < 16) : MSv F (brkN bk p b v) al en (sA g 13 (upd (g.1 13) (16 * p + b) (nI (bN v)))) := fun q hq => by
  obtain ⟨a1, a2, a3, a4, a5⟩ := h q hq
  refine ⟨a1, a2, fun i hi => ?_, a4, a5⟩
  rw [sA_eq]
  unfold upd
  by_cases e : q = p ∧ i = b
  · rw [e.1, e.2, if_pos rfl, brkN_s]
  · rw [if_neg (by omega), a3 i hi]
    have : brkN bk p b v q i = bk q i := if_neg e
    rw [this]
end SV
section RW
variable {sd : Int32} {n t : Nat} {sv : Bool} {ow kk s0 : Nat → Nat} {D : Nat → Nat → Nat → Nat} {m : Nat → Nat} {J : Nat → Nat × (Nat → Nat)} {tr : Nat → Nat → Bool} {F F' : Nat → Nat × (Nat → Nat)} {bk al en bk' al' en' : Nat → Nat → Bool} {g g' mu mu' : St}
theorem RC_cp {sv' : Bool} {ks ss : List Nat} (h : RC sd n t sv ow kk s0 D m J tr F bk al en g) (hk : kp ks ss g g') (h1 : ∀ k, k ∈ ks → 36 ≤ k) (h2 : ∀ k, k ∈ ss → k = 2 ∨ 20 ≤ k) (h3 : g'.2 2 = nI (bN sv')) (hC : CSv F' bk' al' en' g') : RC sd n t sv' ow kk s0 D m J tr F' bk' al' en' g' := by
  obtain ⟨a1, a2, a3, a4, a5, a6, a7, a8, a9, a10⟩ := h
  have k0 : ∀ k, k < 36 → k ∉ ks := fun k x z => by have := h1 k z; omega
  have s9 : ∀ k, k ≠ 2 → k < 20 → k ∉ ss := fun k y x z => by have := h2 k z; omega
  refine ⟨CUs_kp a1 hk (s9 _ (by omega) (by omega)) (k0 _ (by omega)) (k0 _ (by omega)) (k0 _ (by omega)), (hk.2 0 (s9 _ (by omega) (by omega))).trans a2, CUc_kp a3 hk (k0 _ (by omega)), fun u hu => by rw [hk.1 7 (k0 _ (by omega))]; exact a4 u hu, (hk.2 1 (s9 _ (by omega) (by omega))).trans a5, COall_kp a6 hk (k0 _ (by omega)) (k0 _ (by omega)), fun p hp => CI_kp (a7 p hp) hk (k0 _ (by omega)) (s9 _ (by omega) (by omega)), CT_kp a8 hk (k0 _ (by omega)), h3, hC⟩
theorem RM_cp {sv' : Bool} {ks ss : List Nat} (h : RM sd n t sv ow kk s0 D m J tr F bk al en mu) (hk : kp ks ss mu mu') (h1 : ∀ k, k ∈ ks → 11 ≤ k) (h2 : ∀ k, k ∈ ss → k = 0 ∨ k = 4) (h3 : mu'.2 4 = nI (bN sv')) (hM : MSv F' bk' al' en' mu') : RM sd n t sv' ow kk s0 D m J tr F' bk' al' en' mu' := by
  obtain ⟨a1, a2, a3, a4, a5, a6, a7, a8⟩ := h
  have k0 : ∀ k, k < 11 → k ∉ ks := fun k x z => by have := h1 k z; omega
  have s9 : ∀ k, k ≠ 0 → k ≠ 4 → k ∉ ss := fun k y x z => by have := h2 k z; omega
  refine ⟨MUs_kp a1 hk (s9 _ (by omega) (by omega)) (s9 _ (by omega) (by omega)) (k0 _ (by omega)) (k0 _ (by omega)), MUc_kp a2 hk (k0 _ (by omega)), (hk.2 3 (s9 _ (by omega) (by omega))).trans a3, MOall_kp a4 hk (k0 _ (by omega)) (k0 _ (by omega)) (k0 _ (by omega)), fun p hp => MI_kp (a5 p hp) hk (k0 _ (by omega)) (k0 _ (by omega)), MT_kp a6 hk (k0 _ (by omega)), h3, hM⟩
end RW
section C3
variable {x1 x2 x3 : Int32} {g mu : St} {f : Nat → Int64} {fd : Nat → UInt64} {K : St → (Nat → Int64) → (Nat → UInt64) → St → Prop}
theorem case15_ok (hR : Rel g mu) (hK : ∀ g' f' fd' mu', Rel g' mu' → K g' f' fd' mu') : V_case15 x1 x2 x3 g f fd mu K := by
  obtain ⟨sd, n, t, sv, ow, kk, s0, D, m, J, tr, F, bk, al, en, hC, hM, hP⟩ := hR
  unfold V_case15
  refine s_save hC.2.2.2.2.2.2.1 (fun p hp => (hP.2.2.2.2.1 p hp).bd) hC.2.2.2.2.2.2.2.1 (fun g' k1 c1 h1 => r_save hM.2.2.2.2.1 (fun p hp => (hP.2.2.2.2.1 p hp).1) hM.2.2.2.2.2.1 (fun mu' k2 c2 h2 => wp_t rfl (hK _ _ _ _ (Rel_mk (sv := true) (F := J) (bk := fun _ _ => false) (al := tr) (en := fun _ _ => false) (RC_cp hC k1 (fun k hk => (ksC_ge hk).1) (fun k hk => ?_) c1 h1) (RM_cp hM k2 (fun k hk => by simp at hk; omega) (fun k hk => by simp at hk; omega) c2 h2) ⟨hP.1, hP.2.1, hP.2.2.1, hP.2.2.2.1, hP.2.2.2.2.1, hP.2.2.2.2.2.1, hP.2.2.2.2.1, fun _ _ _ _ => rfl⟩))))
  rcases List.mem_cons.mp hk with e | e
  · exact Or.inl e
  · exact Or.inr (ssC_ge e).1
theorem case16_ok (hR : Rel g mu) (hK : ∀ g' f' fd' mu', Rel g' mu' → K g' f' fd' mu') : V_case16 x1 x2 x3 g f fd mu K := by
  obtain ⟨sd, n, t, sv, ow, kk, s0, D, m, J, tr, F, bk, al, en, hC, hM, hP⟩ := hR
  have hM0 := RM_0 (v := 0) hM
  unfold V_case16 V_L_blocks V_X6_blocks V_X7_blocks
  rcases bad_or (n := 4) (by omega) x1 with hb | ⟨p, hp, rfl⟩
  · refine s_reqPx hb (Or.inl ⟨rfl, r_noSpx hb (wp_f (by decide) ?_)⟩)
    exact k_thr (P := fun mu7 => K _ _ fd mu7) (by decide) (sS_eq _ _ _) (hK _ _ _ _ (Rel_0 hC hM hP))
  · refine s_reqP hp ?_
    cases sv with
    | false =>
      refine s_reqSx hC.2.2.2.2.2.2.2.2.1 (Or.inr ⟨rfl, r_noSx hp hM.2.2.2.2.2.2.1 (wp_f (by decide) ?_)⟩)
      rw [sS_00]
      exact k_thr (P := fun mu7 => K _ _ fd mu7) (by decide) (sS_eq _ _ _) (hK _ _ _ _ (Rel_0 hC hM hP))
    | true =>
      have hz := (hP.2.2.2.2.2.2.1 p hp).1
      refine s_reqS hC.2.2.2.2.2.2.2.2.1 ⟨vp_in_nI hp (by omega), ?_⟩
      rw [nI_clamp (by omega)]
      refine s_blockCount (hC.2.2.2.2.2.2.2.2.2 p hp).1.1 hz (r_noS hp hM.2.2.2.2.2.2.1 (wp_t rfl (r_blocksOf (hM0.2.2.2.2.2.2.2 p hp) hz hp ?_)))
      exact k_val (f := f) (P := fun mu7 => K _ _ fd mu7) (sS_eq _ _ _) (hK _ _ _ _ (Rel_0 hC hM hP))
theorem case17_ok (hR : Rel g mu) (hK : ∀ g' f' fd' mu', Rel g' mu' → K g' f' fd' mu') : V_case17 x1 x2 x3 g f fd mu K := by
  obtain ⟨sd, n, t, sv, ow, kk, s0, D, m, J, tr, F, bk, al, en, hC, hM, hP⟩ := hR
  have hM0 := RM_0 (v := 0) hM
  have hF := hP.Fok
  unfold V_case17 V_L_breakBlock V_X6_breakBlock V_X7_breakBlock J_X7_breakBlock_26 J_X7_breakBlock_27 J_X6_breakBlock_25
  rcases bad_or (n := 4) (by omega) x1 with hb | ⟨p, hp, rfl⟩
  · refine s_reqPx hb (Or.inl ⟨rfl, r_noSpx hb (wp_f2 (by decide) ?_)⟩)
    exact k_thr (P := fun mu7 => K _ _ fd mu7) (by decide) (sS_eq _ _ _) (hK _ _ _ _ (Rel_0 hC hM hP))
  · refine s_reqP hp ?_
    cases sv with
    | false =>
      refine s_reqSx hC.2.2.2.2.2.2.2.2.1 (Or.inr ⟨rfl, r_noSx hp hM.2.2.2.2.2.2.1 (wp_f2 (by decide) ?_)⟩)
      rw [sS_00]
      exact k_thr (P := fun mu7 => K _ _ fd mu7) (by decide) (sS_eq _ _ _) (hK _ _ _ _ (Rel_0 hC hM hP))
    | true =>
      have hz := (hP.2.2.2.2.2.2.1 p hp).1
      have ip : vp_in (nI p) 4 := vp_in_nI hp (by omega)
      have hq := (hC.2.2.2.2.2.2.2.2.2 p hp).1
      have hMp := hM0.2.2.2.2.2.2.2 p hp
      refine s_reqS hC.2.2.2.2.2.2.2.2.1 ?_
      rw [nI_clamp (by omega)]
      rcases bad_or (n := ((F p).1 + 3) / 4) (by omega) x2 with hb | ⟨b, hb4, rfl⟩
      · have hn : ¬ x2 < 0 → ¬ x2 < nI (((F p).1 + 3) / 4) := fun h0 h1 => by
          rcases hb with h | h
          · exact h0 h
          · exact absurd h (Int32.not_le.mpr h1)
        refine ⟨fun _ => Or.inr ⟨rfl, r_noS hp hM.2.2.2.2.2.2.1 (wp_t2 rfl ?_)⟩, fun h0 => ⟨ip, s_blockCount hq.1 hz ⟨fun h1 => absurd h1 (hn h0), fun _ => Or.inr ⟨rfl, r_noS hp hM.2.2.2.2.2.2.1 (wp_t2 rfl ?_)⟩⟩⟩⟩
        all_goals
          refine ⟨fun _ => r_no0 (wp_f (by decide) ?_), fun h0 => r_blocksOf hMp hz hp ⟨fun _ => r_no0 (wp_f (by decide) ?_), fun h1 => absurd (Int32.not_le.mp h1) (hn h0)⟩⟩
          · rw [sS_00]
            exact k_thr (P := fun mu7 => K _ _ fd mu7) (by decide) (sS_eq _ _ _) (hK _ _ _ _ (Rel_0 hC hM hP))
          · rw [sS_00]
            exact k_thr (P := fun mu7 => K _ _ fd mu7) (by decide) (sS_eq _ _ _) (hK _ _ _ _ (Rel_0 hC hM hP))
      · have hb16 : b < 16 := by omega
        have hbz : 4 * b < (F p).1 := by omega
        have i16 : vp_in (nI (16 * p + b)) 64 := vp_in_nI (by omega) (by omega)
        refine wp_f (nI_pos (by omega)) ⟨ip, s_blockCount hq.1 hz (wp_t (nI_lt hb4 (by omega)) ⟨ip, s_isBroken hq hF hp (by omega) ?_⟩)⟩
        -- the new state, on both sides
        have fin : ∀ g', kp [37 + 4 * p] [24 + p] g g' → CSq p F (brkN bk p b true) al en g' → Rel g' (sA (sS mu 0 0) 13 (upd ((sS mu 0 0).1 13) (16 * p + b) (nI (bN true)))) := fun g' k1 h1 => by
          refine Rel_mk (bk := brkN bk p b true) (RC_cp hC k1 (fun k hk => by have := List.mem_singleton.mp hk; omega) (fun k hk => by have := List.mem_singleton.mp hk; omega) ((k1.2 2 (by simp <;> omega)).trans hC.2.2.2.2.2.2.2.2.1) (CSv_brk hC.2.2.2.2.2.2.2.2.2 k1 hp h1)) (RM_cp (ks := [13]) (ss := []) hM0 (kp_sA kp_rf (by simp)) (fun k hk => by have := List.mem_singleton.mp hk; omega) (fun k hk => absurd hk (by simp)) hM0.2.2.2.2.2.2.1 (MSv_brk hM0.2.2.2.2.2.2.2 hp hb16)) ⟨hP.1, hP.2.1, hP.2.2.1, hP.2.2.2.1, hP.2.2.2.2.1, hP.2.2.2.2.2.1, hP.2.2.2.2.2.2.1, fun q hq4 i hi => ?_⟩
          have : ¬ (q = p ∧ i = b) := fun z => by rw [z.1, z.2] at hi; omega
          have e : brkN bk p b true q i = bk q i := if_neg this
          rw [e]
          exact hP.2.2.2.2.2.2.2 q hq4 i hi
        have z0 : (sA (sS mu 0 0) 13 (upd ((sS mu 0 0).1 13) (16 * p + b) (nI (bN true)))).2 0 = 0 := sS_eq mu 0 0
        -- the reference's side
        have ref : ∀ {post : Int32 → St → Prop}, post (nI (bN (!bk p b))) (sA (sS mu 0 0) 13 (upd ((sS mu 0 0).1 13) (16 * p + b) (nI (bN true)))) → (nI b < 0 → V_X7_no 0 2 (sS mu 0 0) (fun r6 g5 => ((r6 = 0 → vp_in ((16 * nI p) + nI b) 64 ∧ (((¬ (g5.1 13 (Int32.toNatClampNeg ((16 * nI p) + nI b))) = 0 → J_X7_breakBlock_55 (nI p) (nI b) post (nI p) (nI b) 0 g5) ∧ ((g5.1 13 (Int32.toNatClampNeg ((16 * nI p) + nI b))) = 0 → J_X7_breakBlock_55 (nI p) (nI b) post (nI p) (nI b) 1 g5)))) ∧ (¬ r6 = 0 → post 0 g5)))) ∧ (¬ nI b < 0 → V_X7_blocksOf (nI p) (sS mu 0 0) (fun r4 g3 => ((r4 ≤ nI b → V_X7_no 0 2 g3 (fun r6 g5 => ((r6 = 0 → vp_in ((16 * nI p) + nI b) 64 ∧ (((¬ (g5.1 13 (Int32.toNatClampNeg ((16 * nI p) + nI b))) = 0 → J_X7_breakBlock_55 (nI p) (nI b) post (nI p) (nI b) 0 g5) ∧ ((g5.1 13 (Int32.toNatClampNeg ((16 * nI p) + nI b))) = 0 → J_X7_breakBlock_55 (nI p) (nI b) post (nI p) (nI b) 1 g5)))) ∧ (¬ r6 = 0 → post 0 g5)))) ∧ (¬ r4 ≤ nI b → V_X7_no 1 2 g3 (fun r6 g5 => ((r6 = 0 → vp_in ((16 * nI p) + nI b) 64 ∧ (((¬ (g5.1 13 (Int32.toNatClampNeg ((16 * nI p) + nI b))) = 0 → J_X7_breakBlock_55 (nI p) (nI b) post (nI p) (nI b) 0 g5) ∧ ((g5.1 13 (Int32.toNatClampNeg ((16 * nI p) + nI b))) = 0 → J_X7_breakBlock_55 (nI p) (nI b) post (nI p) (nI b) 1 g5)))) ∧ (¬ r6 = 0 → post 0 g5))))))) := fun {post} h => by
          refine wp_f (nI_pos (by omega)) (r_blocksOf hMp hz hp (wp_f (nI_ge hb4 (by omega)) (r_no1 (wp_t rfl ?_))))
          rw [sS_00, i_16, nI_clamp (by omega)]
          have e13 : (sS mu 0 0).1 13 (16 * p + b) = nI (bN (bk p b)) := hMp.2.2.1 b hb16
          rw [e13]
          unfold J_X7_breakBlock_55
          rw [i_16, nI_clamp (by omega)]
          have en1 : vp_nar .boolean (1 : Int32) = nI (bN true) := nar_b true
          rw [en1]
          refine ⟨i16, ?_⟩
          cases hbk : bk p b with
          | false => rw [hbk] at h; exact wp_t2 rfl ⟨i16, narrow_b1, h⟩
          | true => rw [hbk] at h; exact wp_f2 (by decide) ⟨i16, narrow_b0, h⟩
        cases hbk : bk p b with
        | false =>
          rw [hbk] at ref
          unfold J_X6_breakBlock_53
          rw [nI_clamp (by omega)]
          refine wp_t2 rfl ⟨ip, s_breakOne hq hF hp hbz (fun g' k1 h1 => ⟨narrow_b1, wp_f (by decide) (r_noS hp hM.2.2.2.2.2.2.1 (wp_t2 rfl (ref ?_)))⟩)⟩
          exact k_bool (f := f) (r := true) (P := fun mu7 => K _ _ fd mu7) z0 (hK _ _ _ _ (fin g' k1 h1))
        | true =>
          rw [hbk] at ref
          unfold J_X6_breakBlock_53
          rw [nI_clamp (by omega)]
          refine wp_f2 (by decide) ⟨ip, s_breakOne hq hF hp hbz (fun g' k1 h1 => ⟨narrow_b0, wp_t rfl (r_noS hp hM.2.2.2.2.2.2.1 (wp_t2 rfl (ref ?_)))⟩)⟩
          exact k_bool (f := f) (r := false) (P := fun mu7 => K _ _ fd mu7) z0 (hK _ _ _ _ (fin g' k1 h1))
theorem case18_ok (hR : Rel g mu) (hK : ∀ g' f' fd' mu', Rel g' mu' → K g' f' fd' mu') : V_case18 x1 x2 x3 g f fd mu K := by
  obtain ⟨sd, n, t, sv, ow, kk, s0, D, m, J, tr, F, bk, al, en, hC, hM, hP⟩ := hR
  have hM0 := RM_0 (v := 0) hM
  have hF := hP.Fok
  unfold V_case18 V_L_savedAt V_X6_savedAt V_X7_savedAt J_X7_savedAt_27 J_X7_savedAt_28 J_X7_savedAt_57 J_X6_savedAt_25
  rcases bad_or (n := 4) (by omega) x1 with hb | ⟨p, hp, rfl⟩
  · refine s_reqPx hb (Or.inl ⟨rfl, r_noSpx hb (wp_f2 (by decide) ?_)⟩)
    exact k_thr (P := fun mu7 => K _ _ fd mu7) (by decide) (sS_eq _ _ _) (hK _ _ _ _ (Rel_0 hC hM hP))
  · refine s_reqP hp ?_
    cases sv with
    | false =>
      refine s_reqSx hC.2.2.2.2.2.2.2.2.1 (Or.inr (Or.inl ⟨rfl, r_noSx hp hM.2.2.2.2.2.2.1 (wp_f2 (by decide) ?_)⟩))
      rw [sS_00]
      exact k_thr (P := fun mu7 => K _ _ fd mu7) (by decide) (sS_eq _ _ _) (hK _ _ _ _ (Rel_0 hC hM hP))
    | true =>
      have hz := (hP.2.2.2.2.2.2.1 p hp).1
      have ip : vp_in (nI p) 4 := vp_in_nI hp (by omega)
      have hq := (hC.2.2.2.2.2.2.2.2.2 p hp).1
      have hMp := hM0.2.2.2.2.2.2.2 p hp
      refine s_reqS hC.2.2.2.2.2.2.2.2.1 ?_
      rw [nI_clamp (n := p) (by omega), hq.1]
      have e12 : (sS mu 0 0).1 12 p = nI (F p).1 := hMp.1
      rcases bad_or (n := (F p).1) (by omega) x2 with hb | ⟨k, hk, rfl⟩
      · refine bad_lt2 hb ip (Or.inr (Or.inl ⟨rfl, r_noS hp hM.2.2.2.2.2.2.1 (wp_t2 rfl ?_)⟩)) (Or.inr (Or.inl ⟨rfl, r_noS hp hM.2.2.2.2.2.2.1 (wp_t2 rfl ?_)⟩))
        all_goals
          rw [e12]
          refine bad_le2 hb ip (r_no0 (wp_f2 (by decide) ?_)) (r_no0 (wp_f2 (by decide) ?_))
          · rw [sS_00]
            exact k_thr (P := fun mu7 => K _ _ fd mu7) (by decide) (sS_eq _ _ _) (hK _ _ _ _ (Rel_0 hC hM hP))
          · rw [sS_00]
            exact k_thr (P := fun mu7 => K _ _ fd mu7) (by decide) (sS_eq _ _ _) (hK _ _ _ _ (Rel_0 hC hM hP))
      · have e4 : nI k / 4 = nI (k / 4) := pk_div (a := k) (d := 4) (by omega) (by omega) (by omega)
        have i16 : vp_in (nI (16 * p + k / 4)) 64 := vp_in_nI (by omega) (by omega)
        have i61 : vp_in (nI (61 * p + k)) 244 := vp_in_nI (by omega) (by omega)
        have e13 : (sS mu 0 0).1 13 (16 * p + k / 4) = nI (bN (bk p (k / 4))) := hMp.2.2.1 (k / 4) (by omega)
        have e11 : (sS mu 0 0).1 11 (61 * p + k) = nI ((F p).2 k) := hMp.2.1 k hk
        refine gd_lt2 hk (by omega) ip ⟨ip, ?_⟩
        rw [e4]
        refine s_isBroken hq hF hp (by omega) ?_
        cases hbk : bk p (k / 4) with
        | true =>
          rw [hbk] at e13
          refine wp_f (by decide) (Or.inr (Or.inr ⟨rfl, r_noS hp hM.2.2.2.2.2.2.1 (wp_t2 rfl ?_)⟩))
          rw [e12]
          refine gd_le2 hk (by omega) ip (r_no1 (wp_t2 rfl ?_))
          rw [i_16, nI_clamp (by omega), sS_00, e13]
          refine ⟨i16, wp_f2 (by decide) (r_no0 (wp_f (by decide) ?_))⟩
          rw [sS_00]
          exact k_thr (P := fun mu7 => K _ _ fd mu7) (by decide) (sS_eq _ _ _) (hK _ _ _ _ (Rel_0 hC hM hP))
        | false =>
          rw [hbk] at e13
          refine wp_t rfl ⟨ip, s_numberAt hq hz (by omega) hbk (r_noS hp hM.2.2.2.2.2.2.1 (wp_t2 rfl ?_))⟩
          rw [e12]
          refine gd_le2 hk (by omega) ip (r_no1 (wp_t2 rfl ?_))
          rw [i_16, nI_clamp (by omega), sS_00, e13]
          refine ⟨i16, wp_t2 rfl (r_no1 (wp_t rfl ?_))⟩
          rw [i_61, nI_clamp (by omega), sS_00, e11]
          have enu : nuN (F p) k = (F p).2 k := if_pos hk
          rw [enu]
          refine ⟨i61, ?_⟩
          exact k_val (f := f) (P := fun mu7 => K _ _ fd mu7) (sS_eq _ _ _) (hK _ _ _ _ (Rel_0 hC hM hP))
theorem case21_ok (hR : Rel g mu) (hK : ∀ g' f' fd' mu', Rel g' mu' → K g' f' fd' mu') : V_case21 x1 x2 x3 g f fd mu K := by
  obtain ⟨sd, n, t, sv, ow, kk, s0, D, m, J, tr, F, bk, al, en, hC, hM, hP⟩ := hR
  have hM0 := RM_0 (v := 0) hM
  unfold V_case21 V_L_allies V_X6_allies V_X7_allies
  rcases bad_or (n := 4) (by omega) x1 with hb | ⟨p, hp, rfl⟩
  · refine s_reqPx hb (Or.inl ⟨rfl, r_noSpx hb (wp_f (by decide) ?_)⟩)
    exact k_thr (P := fun mu7 => K _ _ fd mu7) (by decide) (sS_eq _ _ _) (hK _ _ _ _ (Rel_0 hC hM hP))
  · refine s_reqP hp ?_
    cases sv with
    | false =>
      refine s_reqSx hC.2.2.2.2.2.2.2.2.1 (Or.inr ⟨rfl, r_noSx hp hM.2.2.2.2.2.2.1 (wp_f (by decide) ?_)⟩)
      rw [sS_00]
      exact k_thr (P := fun mu7 => K _ _ fd mu7) (by decide) (sS_eq _ _ _) (hK _ _ _ _ (Rel_0 hC hM hP))
    | true =>
      have ip : vp_in (nI p) 4 := vp_in_nI hp (by omega)
      have hq := (hC.2.2.2.2.2.2.2.2.2 p hp).1
      have hMp := hM0.2.2.2.2.2.2.2 p hp
      refine s_reqS hC.2.2.2.2.2.2.2.2.1 ⟨ip, ?_⟩
      rw [nI_clamp (by omega)]
      refine s_bits hq.2.2.1 (r_noS hp hM.2.2.2.2.2.2.1 (wp_t rfl ?_))
      refine lp_for 4 (fun q y => y = (nI p, nI (fb_ct (al p) q), nI q, sS mu 0 0)) ?_ ?_ rfl
      · rintro K2 q _ hq4 rfl hK2
        show J_X7_allies_14 (nI p) _ K2 (nI p) (nI (fb_ct (al p) q)) (nI q) (sS mu 0 0)
        have e14 : (sS mu 0 0).1 14 (4 * p + q) = nI (bN (al p q)) := hMp.2.2.2.1 q hq4
        unfold J_X7_allies_14 J_X7_allies_38
        rw [i_4, nI_clamp (by omega), e14]
        have es := fb_ct_succ (al p) q
        refine pk_le 4 q (fun z => absurd z (by omega)) (fun _ => ⟨vp_in_nI (by omega) (by omega), ?_⟩)
        cases hal : al p q with
        | false =>
          refine wp_t rfl (hK2 _ ?_)
          rw [es, hal, nI_up, show ∀ a : Int32, a + 0 = a from Int32.add_zero]
          rfl
        | true =>
          refine wp_f (by decide) (hK2 _ ?_)
          rw [es, hal, nI_up, nI_up]
          rfl
      · rintro K2 _ rfl
        show J_X7_allies_14 (nI p) _ K2 (nI p) (nI (fb_ct (al p) 4)) (nI 4) (sS mu 0 0)
        unfold J_X7_allies_14
        refine pk_le 4 4 (fun _ => ?_) (fun z => absurd z (by omega))
        have es : fb_ct (al p) 4 = bN (al p 0) + bN (al p 1) + bN (al p 2) + bN (al p 3) := by
          show 0 + bN (al p 0) + bN (al p 1) + bN (al p 2) + bN (al p 3) = _
          omega
        rw [es]
        exact k_val (f := f) (P := fun mu7 => K _ _ fd mu7) (sS_eq _ _ _) (hK _ _ _ _ (Rel_0 hC hM hP))
def ckN (c : Nat → Nat) : Nat → Int64
  | 0 => 0
  | u + 1 => (31 * ckN c u) + Int32.toInt64 (iI 64 (c u))
theorem case22_ok (hR : Rel g mu) (hK : ∀ g' f' fd' mu', Rel g' mu' → K g' f' fd' mu') : V_case22 x1 x2 x3 g f fd mu K := by
  obtain ⟨sd, n, t, sv, ow, kk, s0, D, m, J, tr, F, bk, al, en, hC, hM, hP⟩ := hR
  have h24 := hC.1.2.1
  have e3 : g.2 3 = nI n := hC.1.1
  unfold V_case22 V_X6_checksum V_X7_checksum
  refine lp_for n (fun u y => y = (ckN (posH n ow kk sd s0 D t) u, nI u, g)) ?_ ?_ rfl
  · rintro K2 u _ hu rfl hK2
    show J_X6_checksum_4 _ K2 (ckN (posH n ow kk sd s0 D t) u) (nI u) g
    unfold J_X6_checksum_4
    rw [e3]
    refine pk_le n u (fun z => absurd z (by omega)) (fun _ => s_place hC.1.1 h24 hu (hK2 _ ?_))
    have e1 : g.1 (8 + 10 * 0) u = iI 64 (posH n ow kk sd s0 D t u) := hC.2.2.1 u hu
    rw [e1, nI_up]
    rfl
  · rintro K2 _ rfl
    show J_X6_checksum_4 _ K2 (ckN (posH n ow kk sd s0 D t) n) (nI n) g
    unfold J_X6_checksum_4
    rw [e3]
    refine pk_le n n (fun _ => ?_) (fun z => absurd z (by omega))
    refine lp_for n (fun u y => y = (ckN (posH n ow kk sd s0 D t) u, nI u, mu)) ?_ ?_ rfl
    · rintro K3 u _ hu rfl hK3
      show J_X7_checksum_4 _ K3 (ckN (posH n ow kk sd s0 D t) u) (nI u) mu
      unfold J_X7_checksum_4
      rw [hM.1.2.1, nI_clamp (by omega), hM.2.1 u hu]
      refine pk_le n u (fun z => absurd z (by omega)) (fun _ => ⟨vp_in_nI (by omega) (by omega), hK3 _ ?_⟩)
      rw [nI_up]
      rfl
    · rintro K3 _ rfl
      show J_X7_checksum_4 _ K3 (ckN (posH n ow kk sd s0 D t) n) (nI n) mu
      unfold J_X7_checksum_4
      rw [hM.1.2.1]
      exact pk_le n n (fun _ => wp_t (lg_self _) (hK _ _ _ _ (Rel_mk hC hM hP))) (fun z => absurd z (by omega))
end C3
