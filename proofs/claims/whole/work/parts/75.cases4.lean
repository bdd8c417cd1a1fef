/-! PART 75: the calls that add units, give orders, do turns -/
section C4
variable {x1 x2 x3 : Int32} {g mu : St} {f : Nat → Int64} {fd : Nat → UInt64} {K : St → (Nat → Int64) → (Nat → UInt64) → St → Prop}
theorem Rel_add {sd : Int32} {n p q x : Nat} {sv : Bool} {ow kk s0 : Nat → Nat} {D : Nat → Nat → Nat → Nat} {m : Nat → Nat} {J : Nat → Nat × (Nat → Nat)} {tr : Nat → Nat → Bool} {F : Nat → Nat × (Nat → Nat)} {bk al en : Nat → Nat → Bool} {g' mu' : St}
    (hC : RC sd n 0 sv ow kk s0 D m J tr F bk al en g) (hM : RM sd n 0 sv ow kk s0 D m J tr F bk al en mu) (hP : RP n 0 ow s0 D m J tr F bk) (hp : p < 4) (hx : x < 64) (hkd : kdN q < 3) (ho : ¬ fN (fun u => decide (s0 u = x)) n < n) (hn : n < 24)
    (k1 : kp [5, 6, 7, 8] [3] g g') (c1 : g'.2 3 = nI (n + 1)) (c5 : g'.1 5 = upd (g.1 5) n (nI p)) (c6 : g'.1 6 = upd (g.1 6) n (nI (kdN q))) (c7 : g'.1 7 = upd (g.1 7) n (nI x)) (c8 : g'.1 8 = upd (g.1 8) n (nI x))
    (k2 : kp [1, 2, 7] [0, 2] mu mu') (m2 : mu'.2 2 = nI (n + 1)) (d1 : mu'.1 1 = upd (mu.1 1) n (nI p)) (d7 : mu'.1 7 = upd (mu.1 7) n (nI q)) (d2 : mu'.1 2 = upd (mu.1 2) n (nI x)) : Rel g' mu' := by
  obtain ⟨a1, a2, a3, a4, a5, a6, a7, a8, a9, a10⟩ := hC
  obtain ⟨b1, b2, b3, b4, b5, b6, b7, b8⟩ := hM
  obtain ⟨p1, p2, p3, p5, p6, p7, p8, p9⟩ := hP
  have hlt : ∀ u, u < n + 1 → u ≠ n → u < n := fun u h1 h2 => by omega
  have upn : ∀ (h : Nat → Nat) (v : Nat), updN h n v n = v := fun h v => if_pos rfl
  have upo : ∀ (h : Nat → Nat) (v u : Nat), u ≠ n → updN h n v u = h u := fun h v u e => if_neg e
  refine ⟨sd, n + 1, 0, sv, updN ow n p, updN kk n (kdN q), updN s0 n x, D, m, J, tr, F, bk, al, en, ⟨⟨c1, by omega, fun i hi => ?_, fun u hu => ?_⟩, (k1.2 0 (by simp)).trans a2, fun u hu => ?_, fun u hu => ?_, (k1.2 1 (by simp)).trans a5, COall_kp a6 k1 (by simp) (by simp), fun r hr => CI_kp (a7 r hr) k1 (by simp <;> omega) (by simp <;> omega), CT_kp a8 k1 (by simp), (k1.2 2 (by simp)).trans a9, CSv_kp a10 k1 (fun k hk => by simp at hk; omega) (fun k hk => by simp at hk; omega)⟩, ⟨⟨(k2.2 1 (by simp)).trans b1.1, m2, by omega, fun u hu => ?_⟩, fun u hu => ?_, (k2.2 3 (by simp)).trans b3, MOall_kp b4 k2 (by simp) (by simp) (by simp), fun r hr => MI_kp (b5 r hr) k2 (by simp) (by simp), MT_kp b6 k2 (by simp), (k2.2 4 (by simp)).trans b7, MSv_kp b8 k2 (by simp) (by simp) (by simp) (by simp) (by simp)⟩, ⟨p1, ⟨fun u hu => ?_, fun u v hu hv h1 h2 => ?_⟩, fun u hu => ?_, ⟨fun u hu => ?_, p5.2⟩, fun r hr => Iok.mono (p6 r hr) (by omega) (Nat.le_refl _) (fun u hu => upo _ _ _ (by omega)), p7, fun r hr => Iok.mono (p8 r hr) (by omega) (Nat.le_refl _) (fun u hu => upo _ _ _ (by omega)), p9⟩⟩
  · show g'.1 3 i = _
    rw [k1.1 3 (by simp)]
    exact a1.2.2.1 i hi
  · show g'.1 5 u = _ ∧ _ ∧ g'.1 6 u = _ ∧ _
    rw [c5, c6]
    by_cases e : u = n
    · rw [e, upn, upn, pk_us, pk_us]
      exact ⟨rfl, hp, rfl, hkd⟩
    · rw [upo _ _ _ e, upo _ _ _ e, pk_un e, pk_un e]
      exact a1.2.2.2 u (hlt u hu e)
  · show g'.1 8 u = iI 64 (updN s0 n x u)
    rw [c8]
    by_cases e : u = n
    · rw [e, upn, pk_us, iI_in hx]
    · rw [upo _ _ _ e, pk_un e]
      exact a3 u (hlt u hu e)
  · show g'.1 7 u = _
    rw [c7]
    by_cases e : u = n
    · rw [e, upn, pk_us]
    · rw [upo _ _ _ e, pk_un e]
      exact a4 u (hlt u hu e)
  · rw [d1, d7]
    by_cases e : u = n
    · rw [e, upn, upn, pk_us, pk_us, kdN_kc hkd]
      exact ⟨rfl, hp, rfl, hkd⟩
    · rw [upo _ _ _ e, upo _ _ _ e, pk_un e, pk_un e]
      exact b1.2.2.2 u (hlt u hu e)
  · show mu'.1 2 u = iI 64 (updN s0 n x u)
    rw [d2]
    by_cases e : u = n
    · rw [e, upn, pk_us, iI_in hx]
    · rw [upo _ _ _ e, pk_un e]
      exact b2 u (hlt u hu e)
  · by_cases e : u = n
    · rw [e, upn]; omega
    · rw [upo _ _ _ e]; exact p2.1 u (hlt u hu e)
  · have free : ∀ w, w < n → s0 w ≠ x := fun w hw => of_decide_eq_false (fN_no ho hw)
    by_cases e : u = n
    · by_cases e2 : v = n
      · omega
      · rw [e, upn, upo _ _ _ e2] at h2
        exact absurd h2.symm (free v (hlt v hv e2))
    · by_cases e2 : v = n
      · rw [e2, upn, upo _ _ _ e] at h2
        exact absurd h2 (free u (hlt u hu e))
      · rw [upo _ _ _ e, upo _ _ _ e2] at h2
        rw [upo _ _ _ e] at h1
        exact p2.2 u v (hlt u hu e) (hlt v hv e2) h1 h2
  · by_cases e : u = n
    · rw [e, upn]; exact hx
    · rw [upo _ _ _ e]; exact p3 u (hlt u hu e)
  · obtain ⟨q1, q2, q3⟩ := p5.1 u hu
    exact ⟨q1, fun h => q2 (by omega), q3⟩
theorem case2_ok (hR : Rel g mu) (hK : ∀ g' f' fd' mu', Rel g' mu' → K g' f' fd' mu') : V_case2 x1 x2 x3 g f fd mu K := by
  obtain ⟨sd, n, t, sv, ow, kk, s0, D, m, J, tr, F, bk, al, en, hC, hM, hP⟩ := hR
  unfold V_case2 V_L_addUnit
  rw [pk_char]
  have hq : x2.toBitVec.toNat % 65536 < 65536 := Nat.mod_lt _ (by omega)
  generalize x2.toBitVec.toNat % 65536 = q at hq
  rcases bad_or (n := 4) (by omega) x1 with hb | ⟨p, hp, rfl⟩
  · unfold V_X6_addUnit V_X7_addUnit J_X7_addUnit_21 J_X7_addUnit_22
    refine s_reqPx hb (Or.inl ⟨rfl, bad_le hb (r_no0 (wp_f2 (by decide) ?_)) (r_no0 (wp_f2 (by decide) ?_))⟩)
    · exact k_thr (P := fun mu7 => K _ _ fd mu7) (by decide) (sS_eq _ _ _) (hK _ _ _ _ (Rel_0 hC hM hP))
    · exact k_thr (P := fun mu7 => K _ _ fd mu7) (by decide) (sS_eq _ _ _) (hK _ _ _ _ (Rel_0 hC hM hP))
  · rcases bad_or (n := 64) (by omega) x3 with hb | ⟨x, hx, rfl⟩
    · unfold V_X6_addUnit V_X7_addUnit J_X7_addUnit_21 J_X7_addUnit_22
      refine s_reqP hp (s_reqCx hb (Or.inl ⟨rfl, gd_le (n := 4) hp (by omega) (r_isCellx hb (wp_t rfl (r_no0 (wp_f2 (by decide) ?_))))⟩))
      exact k_thr (P := fun mu7 => K _ _ fd mu7) (by decide) (sS_eq _ _ _) (hK _ _ _ _ (Rel_0 hC hM hP))
    · refine s_addUnit (c := posH n ow kk sd s0 D t) hC.1 hC.2.2.1 hC.2.2.2.2.1 hP.1 hp hq hx (fun h2 => Or.inr (Or.inl ⟨rfl, ?_⟩)) (fun hk h3 => Or.inr (Or.inr (Or.inl ⟨rfl, ?_⟩))) (fun hk hg ho h4 => Or.inr (Or.inr (Or.inr ⟨rfl, ?_⟩))) (fun hk hg ho hn ht g' k1 c1 c5 c6 c7 c8 => ?_)
      · refine r_addUnit (c := posH n ow kk sd s0 D t) hM.1 hM.2.1 hM.2.2.1 hP.1 hp hq hx (fun _ => ?_) (fun z => absurd z (by omega)) (fun z => absurd z (by omega)) (fun z => absurd z (by omega))
        exact k_thr (P := fun mu7 => K _ _ fd mu7) (by decide) (sS_eq _ _ _) (hK _ _ _ _ (Rel_0 hC hM hP))
      · refine r_addUnit (c := posH n ow kk sd s0 D t) hM.1 hM.2.1 hM.2.2.1 hP.1 hp hq hx (fun z => absurd z (by omega)) (fun _ _ => ?_) (fun _ z1 z2 => absurd h3 (fun y => y.elim z1 z2)) (fun _ z1 z2 => absurd h3 (fun y => y.elim z1 z2))
        exact k_thr (P := fun mu7 => K _ _ fd mu7) (by decide) (sS_eq _ _ _) (hK _ _ _ _ (Rel_0 hC hM hP))
      · refine r_addUnit (c := posH n ow kk sd s0 D t) hM.1 hM.2.1 hM.2.2.1 hP.1 hp hq hx (fun z => absurd z (by omega)) (fun _ y => absurd y (fun y => y.elim hg ho)) (fun _ _ _ _ => ?_) (fun _ _ _ z1 z2 => absurd ⟨z1, z2⟩ h4)
        exact k_thr (P := fun mu7 => K _ _ fd mu7) (by decide) (sS_eq _ _ _) (hK _ _ _ _ (Rel_0 hC hM hP))
      · refine r_addUnit (c := posH n ow kk sd s0 D t) hM.1 hM.2.1 hM.2.2.1 hP.1 hp hq hx (fun z => absurd z (by omega)) (fun _ y => absurd y (fun y => y.elim hg ho)) (fun _ _ _ y => absurd ⟨hn, ht⟩ y) (fun _ _ _ _ _ mu' k2 z2 m2 d1 d7 d2 => ?_)
        subst ht
        exact k_val (f := f) (P := fun mu7 => K _ _ fd mu7) z2 (hK _ _ _ _ (Rel_add hC hM hP hp hx hk ho hn k1 c1 c5 c6 c7 c8 k2 m2 d1 d7 d2))
theorem Rel_ord {sd : Int32} {n t u d : Nat} {sv : Bool} {ow kk s0 : Nat → Nat} {D : Nat → Nat → Nat → Nat} {m : Nat → Nat} {J : Nat → Nat × (Nat → Nat)} {tr : Nat → Nat → Bool} {F : Nat → Nat × (Nat → Nat)} {bk al en : Nat → Nat → Bool} {g' mu' : St}
    (hC : RC sd n t sv ow kk s0 D m J tr F bk al en g) (hM : RM sd n t sv ow kk s0 D m J tr F bk al en mu) (hP : RP n t ow s0 D m J tr F bk) (hu : u < n) (hd : d < 8) (hmu : m u < 2)
    (k1 : kp [22, 23] [] g g') (c22 : g'.1 22 = upd (g.1 22) (spN t u (m u)) (nI d)) (c23 : g'.1 23 = upd (g.1 23) u (nI (m u + 1)))
    (k2 : kp [4, 5, 6] [0] mu mu') (d4 : mu'.1 4 = upd (mu.1 4) u (nI (m u + 1))) (d5 : mu'.1 5 = (if m u = 0 then upd (mu.1 5) u (nI d) else mu.1 5)) (d6 : mu'.1 6 = (if m u = 0 then mu.1 6 else upd (mu.1 6) u (nI d))) : Rel g' mu' := by
  obtain ⟨a1, a2, a3, a4, a5, a6, a7, a8, a9, a10⟩ := hC
  obtain ⟨b1, b2, b3, b4, b5, b6, b7, b8⟩ := hM
  obtain ⟨p1, p2, p3, p5, p6, p7, p8, p9⟩ := hP
  have h24 := a1.2.1
  obtain ⟨D', eD⟩ : ∃ D' : Nat → Nat → Nat → Nat, D' = fun i k v => if i = t ∧ k = m u ∧ v = u then d else D i k v := ⟨_, rfl⟩
  have Ds : D' t (m u) u = d := by rw [eD]; exact if_pos ⟨rfl, rfl, rfl⟩
  have Dn : ∀ i k v, ¬ (i = t ∧ k = m u ∧ v = u) → D' i k v = D i k v := fun i k v h => by rw [eD]; exact if_neg h
  have epos : posH n ow kk sd s0 D' t = posH n ow kk sd s0 D t := posH_cong (fun i hi => by
    funext k v
    exact Dn i k v (fun z => by omega))
  refine ⟨sd, n, t, sv, ow, kk, s0, D', updN m u (m u + 1), J, tr, F, bk, al, en, ⟨CUs_kp a1 k1 (by simp) (by simp) (by simp) (by simp), (k1.2 0 (by simp)).trans a2, by rw [epos]; exact CUc_kp a3 k1 (by simp), fun v hv => by rw [k1.1 7 (by simp)]; exact a4 v hv, (k1.2 1 (by simp)).trans a5, ⟨fun t' v k ht' hv hk => ?_, fun v hv => ?_⟩, fun r hr => CI_kp (a7 r hr) k1 (by simp <;> omega) (by simp), CT_kp a8 k1 (by simp), (k1.2 2 (by simp)).trans a9, CSv_kp a10 k1 (fun k hk => by simp at hk; omega) (fun k hk => absurd hk (by simp))⟩, ⟨MUs_kp b1 k2 (by simp) (by simp) (by simp) (by simp), by rw [epos]; exact MUc_kp b2 k2 (by simp), (k2.2 3 (by simp)).trans b3, fun v hv => ?_, fun r hr => MI_kp (b5 r hr) k2 (by simp) (by simp), MT_kp b6 k2 (by simp), (k2.2 4 (by simp)).trans b7, MSv_kp b8 k2 (by simp) (by simp) (by simp) (by simp) (by simp)⟩, ⟨p1, p2, p3, ⟨fun v hv => ?_, fun i k v hi hi2 hk hv => ?_⟩, p6, p7, p8, p9⟩⟩
  · rw [c22]
    unfold upd
    by_cases e : t' = t ∧ k = m u ∧ v = u
    · rw [e.1, e.2.1, e.2.2, if_pos rfl, Ds, iI_in hd]
    · rw [Dn _ _ _ e, if_neg (by unfold spN; omega)]
      exact a6.1 t' v k ht' hv hk
  · rw [c23]
    unfold upd updN
    by_cases e : v = u
    · rw [if_pos e, if_pos e]
    · rw [if_neg e, if_neg e]; exact a6.2 v hv
  · obtain ⟨q1, q2, q3⟩ := b4 v hv
    rw [d4, d5, d6]
    unfold upd updN
    by_cases e : v = u
    · subst e
      rw [if_pos rfl, if_pos rfl]
      by_cases e0 : m v = 0
      · rw [if_pos e0, if_pos e0]
        rw [e0] at Ds
        refine ⟨rfl, fun _ => ?_, fun z => absurd z (by omega)⟩
        rw [Ds]
        exact if_pos rfl
      · have e1 : m v = 1 := by omega
        rw [if_neg e0, if_neg e0]
        rw [e1] at Ds
        refine ⟨rfl, fun _ => ?_, fun _ => ?_⟩
        · rw [Dn t 0 v (fun z => by omega)]
          exact q2 (by omega)
        · rw [Ds]
          exact if_pos rfl
    · rw [if_neg e, if_neg e, Dn t 0 v (fun z => e z.2.2), Dn t 1 v (fun z => e z.2.2)]
      refine ⟨q1, fun z => ?_, fun z => ?_⟩
      · by_cases e0 : m u = 0
        · rw [if_pos e0]
          show (if v = u then _ else mu.1 5 v) = _
          rw [if_neg e]; exact q2 z
        · rw [if_neg e0]; exact q2 z
      · by_cases e0 : m u = 0
        · rw [if_pos e0]; exact q3 z
        · rw [if_neg e0]
          show (if v = u then _ else mu.1 6 v) = _
          rw [if_neg e]; exact q3 z
  · obtain ⟨q1, q2, q3⟩ := p5.1 v hv
    unfold updN
    by_cases e : v = u
    · subst e
      rw [if_pos rfl]
      refine ⟨by omega, fun z => absurd z (by omega), fun k hk => ?_⟩
      by_cases ek : k = m v
      · rw [ek, Ds]
        exact ⟨fun _ => hd, fun _ => by omega⟩
      · rw [Dn t k v (fun z => ek z.2.1), ← q3 k hk]
        omega
    · rw [if_neg e]
      refine ⟨q1, q2, fun k hk => ?_⟩
      rw [Dn t k v (fun z => e z.2.2)]
      exact q3 k hk
  · rw [Dn i k v (fun z => by omega)]
    exact p5.2 i k v hi hi2 hk hv
theorem case3_ok (hR : Rel g mu) (hK : ∀ g' f' fd' mu', Rel g' mu' → K g' f' fd' mu') : V_case3 x1 x2 x3 g f fd mu K := by
  obtain ⟨sd, n, t, sv, ow, kk, s0, D, m, J, tr, F, bk, al, en, hC, hM, hP⟩ := hR
  have h24 := hC.1.2.1
  have hCk := posH_ok (ow := ow) (kk := kk) (sd := sd) (D := D) h24 hP.2.1 t
  unfold V_case3 V_L_order
  rcases bad_or (n := n) (by omega) x1 with hb | ⟨u, hu, rfl⟩
  · unfold V_X6_order V_X7_order
    refine s_reqUx hC.1.1 hb (Or.inl ⟨rfl, r_noUx hM.1.2.1 hb (wp_f2 (by decide) ?_)⟩)
    exact k_thr (P := fun mu7 => K _ _ fd mu7) (by decide) (sS_eq _ _ _) (hK _ _ _ _ (Rel_0 hC hM hP))
  · rcases bad_or (n := 8) (by omega) x2 with hb | ⟨d, hd, rfl⟩
    · unfold V_X6_order V_X7_order J_X6_order_15 J_X7_order_23 J_X7_order_24
      refine s_reqU hC.1.1 h24 hu (bad_lt hb (Or.inr (Or.inl ⟨rfl, r_noU hM.1.2.1 h24 hu (wp_t2 rfl (bad_le hb (r_no0 (wp_f2 (by decide) ?_)) (r_no0 (wp_f2 (by decide) ?_))))⟩)) (Or.inr (Or.inl ⟨rfl, r_noU hM.1.2.1 h24 hu (wp_t2 rfl (bad_le hb (r_no0 (wp_f2 (by decide) ?_)) (r_no0 (wp_f2 (by decide) ?_))))⟩)))
      all_goals
        rw [sS_00]
        exact k_thr (P := fun mu7 => K _ _ fd mu7) (by decide) (sS_eq _ _ _) (hK _ _ _ _ (Rel_0 hC hM hP))
    · refine s_order hC.1 hC.2.2.1 hCk.1 hC.2.2.2.2.1 hP.1 hC.2.2.2.2.2.1 (fun v hv => (hP.2.2.2.1.1 v hv).1) hu hd (fun h3 => Or.inr (Or.inr ⟨rfl, ?_⟩)) (fun hl h4 g' k1 c22 c23 => ?_)
      · refine r_order hM.1 hM.2.1 hM.2.2.2.1 (fun v hv => (hP.2.2.2.1.1 v hv).1) hu hd (fun _ => ?_) (fun z1 z2 => absurd ⟨z1, z2⟩ h3)
        exact k_thr (P := fun mu7 => K _ _ fd mu7) (by decide) (sS_eq _ _ _) (hK _ _ _ _ (Rel_0 hC hM hP))
      · have hst := stN_le (kk u)
        refine r_order hM.1 hM.2.1 hM.2.2.2.1 (fun v hv => (hP.2.2.2.1.1 v hv).1) hu hd (fun z => absurd ⟨hl, h4⟩ z) (fun _ _ mu' k2 z0 d4 d5 d6 => ?_)
        exact k_val (f := f) (P := fun mu7 => K _ _ fd mu7) z0 (hK _ _ _ _ (Rel_ord hC hM hP hu hd (by omega) k1 c22 c23 k2 d4 d5 d6))
theorem case4_ok (hR : Rel g mu) (hK : ∀ g' f' fd' mu', Rel g' mu' → K g' f' fd' mu') : V_case4 x1 x2 x3 g f fd mu K := by
  obtain ⟨sd, n, t, sv, ow, kk, s0, D, m, J, tr, F, bk, al, en, hC, hM, hP⟩ := hR
  have h24 := hC.1.2.1
  have hCk := posH_ok (ow := ow) (kk := kk) (sd := sd) (D := D) h24 hP.2.1 t
  have hbd : ∀ p, p < 4 → Ibd (J p).1 (J p).2 := fun p hp => (hP.2.2.2.2.1 p hp).bd
  unfold V_case4 V_L_turn
  by_cases ht : t < 99
  · refine s_turn hC.1 hC.2.2.1 hCk ht hC.2.2.2.2.1 hC.2.2.2.2.2.1 hC.2.2.2.2.2.2.2.1 hC.2.2.2.2.2.2.1 hbd (fun p hp => (hP.2.2.2.2.1 p hp).ky) (fun mm g' k1 c1 hc' c23 hI' hm => ?_)
    refine r_turn hM.1 hM.2.1 hCk ht hM.2.2.1 hM.2.2.2.1 hP.2.2.2.1 hM.2.2.2.2.2.1 (fun p hp => (hP.2.2.2.2.2.1 p hp).1) hM.2.2.2.2.1 hbd (fun mu' k2 z0 m3 hmc' d4 hMI' => ?_)
    have epos : posH n ow kk sd s0 D (t + 1) = stepN n ow kk sd (D t 1) (stepN n ow kk sd (D t 0) (posH n ow kk sd s0 D t)) := rfl
    rw [← epos] at hc' hI' hm hmc' hMI' ⊢
    have er : nI (livN n (posH n ow kk sd s0 D t)) - nI (livN n (posH n ow kk sd s0 D (t + 1))) = nI mm := by
      rw [pk_sub (by omega)]
      congr 1
      omega
    rw [er]
    refine k_val (f := f) (P := fun mu7 => K _ _ fd mu7) z0 (hK _ _ _ _ ?_)
    obtain ⟨a1, a2, a3, a4, a5, a6, a7, a8, a9, a10⟩ := hC
    obtain ⟨b1, b2, b3, b4, b5, b6, b7, b8⟩ := hM
    obtain ⟨p1, p2, p3, p5, p6, p7, p8, p9⟩ := hP
    refine ⟨sd, n, t + 1, sv, ow, kk, s0, D, fun _ => 0, sg2 n sd ow kk (posH n ow kk sd s0 D (t + 1)) (t + 1) tr J, tr, F, bk, al, en, ⟨CUs_kp a1 k1 (by simp) (by simp) (by simp) (by simp), (k1.2 0 (by simp)).trans a2, hc', fun v hv => by rw [k1.1 7 (by simp)]; exact a4 v hv, c1, ⟨fun t' v k ht' hv hk => by rw [k1.1 22 (by simp)]; exact a6.1 t' v k ht' hv hk, c23⟩, hI', CT_kp a8 k1 (by simp), (k1.2 2 (by simp)).trans a9, CSv_kp a10 k1 (fun k hk => by simp at hk; omega) (fun k hk => by simp at hk; omega)⟩, ⟨MUs_kp b1 k2 (by simp) (by simp) (by simp) (by simp), hmc', m3, fun v hv => ⟨d4 v hv, fun z => absurd z (Nat.not_lt_zero _), fun z => absurd z (Nat.not_lt_zero _)⟩, hMI', MT_kp b6 k2 (by simp), (k2.2 4 (by simp)).trans b7, MSv_kp b8 k2 (by simp) (by simp) (by simp) (by simp) (by simp)⟩, ⟨by omega, p2, p3, ⟨fun v hv => ⟨Nat.zero_le _, fun _ => rfl, fun k hk => ?_⟩, fun i k v hi hi2 hk hv => p5.2 i k v (by omega) hi2 hk hv⟩, fun r hr => Iok.sg h24 ht (p6 r hr), p7, fun r hr => Iok.mono (p8 r hr) (Nat.le_refl _) (by omega) (fun _ _ => rfl), p9⟩⟩
    rw [p5.2 (t + 1) k v (by omega) (by omega) hk hv]
    exact ⟨fun z => absurd z (Nat.not_lt_zero _), fun z => absurd z (Nat.lt_irrefl _)⟩
  · have e99 : t = 99 := by have := hP.1; omega
    unfold V_X6_turn V_X7_turn J_X7_turn_15
    rw [hC.2.2.2.2.1, hM.2.2.1]
    refine pk_lt t 99 (fun z => absurd z ht) (fun _ => ⟨rfl, pk_le 99 t (fun _ => r_no0 (wp_f (by decide) ?_)) (fun z => absurd z (by omega))⟩)
    exact k_thr (P := fun mu7 => K _ _ fd mu7) (by decide) (sS_eq _ _ _) (hK _ _ _ _ (Rel_0 hC hM hP))
end C4
