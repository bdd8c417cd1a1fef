/-! PART 55: the class's field in numbers: contested cells, the step, the turn -/
def s_fillF (N : Nat) (x : Int32) (f : Nat → Int32) : Nat → Int32 := fun j => if j < N then x else f j
theorem s_fill {k N : Nat} {x : Int32} {g : St} {post : St → Prop} (hN : N < 2 ^ 31) (h : post (sA g k (s_fillF N x (g.1 k)))) : V_J7_fill_53178 k N x g post := by
  unfold V_J7_fill_53178
  refine lp_for N (fun i z => z = (x, nI i, nI N, sA g k (s_fillF i x (g.1 k)))) ?_ ?_ ?_
  · rintro K i _ hi rfl hK
    show J_J7_fill_53178_5 k N x post K x (nI i) (nI N) _
    unfold J_J7_fill_53178_5
    refine pk_le N i (fun c => absurd c (by omega)) (fun _ => ⟨vp_in_nI hi hN, hK _ ?_⟩)
    rw [nI_clamp (by omega), sA_eq, sA_sA, nI_up]
    congr 4
    funext j
    unfold upd s_fillF
    by_cases e : j = i
    · subst e; simp
    · by_cases e2 : j < i
      · rw [if_neg e, if_pos e2, if_pos (by omega)]
      · rw [if_neg e, if_neg e2, if_neg (by omega)]
  · rintro K _ rfl
    show J_J7_fill_53178_5 k N x post K x (nI N) (nI N) _
    unfold J_J7_fill_53178_5
    exact pk_le N N (fun _ => h) (fun c => absurd c (by omega))
  · show _ = (x, nI 0, nI N, sA g k (s_fillF 0 x (g.1 k)))
    rw [show s_fillF 0 x (g.1 k) = g.1 k from funext fun j => if_neg (Nat.not_lt_zero j), sA_self]
    rfl
section CF2
variable {w n : Nat} {sd : Int32} {ow kk c wt c' wt' : Nat → Nat} {g g' : St}
theorem CUc_kp {ks ss : List Nat} (h : CUc w n c g) (hk : kp ks ss g g') (h1 : 8 + 10 * w ∉ ks) : CUc w n c g' := fun u hu => by rw [hk.1 _ h1]; exact h u hu
theorem CUw_kp {ks ss : List Nat} (h : CUw w n wt g) (hk : kp ks ss g g') (h1 : 9 + 10 * w ∉ ks) : CUw w n wt g' := fun u hu => by rw [hk.1 _ h1]; exact h u hu
theorem s_isContested {x : Nat} {post : Int32 → St → Prop} (hs : CUs w sd n ow kk g) (hw : CUw w n wt g) (hS : SI n c wt) (hx : x < 64) (h : post (if 1 < fb_ct (fun u => decide (wt u = x)) n then 1 else 0) g) : V_X1_isContested w (nI x) g post := by
  obtain ⟨hn, h24, hG, hU⟩ := hs
  unfold V_X1_isContested
  refine lp_for n (fun k z => z = (nI x, nI (fb_ct (fun u => decide (wt u = x)) k), nI k, g)) ?_ ?_ rfl
  · rintro K k _ hk rfl hK
    show J_X1_isContested_4 w (nI x) post K (nI x) (nI _) (nI k) g
    unfold J_X1_isContested_4 J_X1_isContested_28
    rw [hn, nI_clamp (by omega), hw k hk]
    refine pk_le n k (fun z => absurd z (by omega)) (fun _ => ⟨vp_in_nI (by omega) (by decide), ?_⟩)
    by_cases e : wt k = x
    · refine wp_t2 (by rw [e, iI_in hx]) (hK _ ?_)
      rw [nI_up, nI_up, fb_ct_succ, if_pos (decide_eq_true e)]
    · refine wp_f2 (fun z => e ((iI_nI (by decide) hx).mp z)) (hK _ ?_)
      rw [nI_up, fb_ct_succ, if_neg (by simp [e])]
      rfl
  · rintro K _ rfl
    show J_X1_isContested_4 w (nI x) post K (nI x) (nI _) (nI n) g
    unfold J_X1_isContested_4
    rw [hn]
    have := fb_ct_le (fun u => decide (wt u = x)) n
    refine pk_le n n (fun _ => pk_le _ 1 (fun z => ?_) (fun z => ?_) rfl rfl (by omega)) (fun z => absurd z (by omega))
    · rw [if_neg (by omega)] at h; exact h
    · rw [if_pos (by omega)] at h; exact h
theorem cnt_mover {x : Nat} (hS : SI n c wt) (hx : x < 64) (h : 1 < fb_ct (fun u => decide (wt u = x)) n) : ∃ u, u < n ∧ wt u = x ∧ wt u ≠ c u := by
  obtain ⟨a, b, hab, ha, hb, pa, pb⟩ := ct_two h
  have pa : wt a = x := of_decide_eq_true pa
  have pb : wt b = x := of_decide_eq_true pb
  by_cases ca : c a = x
  · refine ⟨b, hb, pb, fun e => hab (hS.2 a b ha hb (by omega) (by omega))⟩
  · exact ⟨a, ha, pa, by omega⟩
theorem s_lowest {post : Int32 → St → Prop} (hs : CUs w sd n ow kk g) (hc : CUc w n c g) (hw : CUw w n wt g) (hS : SI n c wt) (h : post (iI 64 (cntd n wt)) g) : V_X1_lowestContested w g post := by
  have h24 := hs.2.1
  unfold V_X1_lowestContested
  refine lp_for n (fun k z => ∃ l, z = (nI l, nI k, g) ∧ l ≤ 64 ∧ (l < 64 → 1 < fb_ct (fun u => decide (wt u = l)) n) ∧ ∀ u, u < k → wt u ≠ c u → 1 < fb_ct (fun v => decide (wt v = wt u)) n → l ≤ wt u) ?_ ?_ ⟨64, rfl, Nat.le_refl _, fun z => absurd z (by omega), fun u hu => absurd hu (by omega)⟩
  · rintro K k _ hk ⟨l, rfl, h1, h2, h3⟩ hK
    show J_X1_lowestContested_5 w post K (nI l) (nI k) g
    unfold J_X1_lowestContested_5 J_X1_lowestContested_54
    rw [hs.1]
    refine pk_le n k (fun z => absurd z (by omega)) (fun _ => s_isMover hs.1 hs.2.1 hk ?_)
    obtain ⟨a1, a2, a3⟩ := hS.1 k hk
    rw [hw k hk, hc k hk]
    by_cases hm : wt k = c k
    · rw [if_pos (by rw [hm])]
      refine wp_t rfl (hK _ ⟨l, by rw [nI_up], h1, h2, fun u hu z1 z2 => ?_⟩)
      by_cases e : u = k
      · subst e; exact absurd hm z1
      · exact h3 u (by omega) z1 z2
    · rw [if_neg (fun e => hm ((iI_inj (by decide) a2 a1).mp e))]
      have hl : wt k < 64 := by
        have : wt k ≠ 64 := fun e => hm (e.trans (a3.mpr e).symm)
        omega
      have h24 := hs.2.1
      refine wp_f (by decide) ⟨vp_in_nI (by omega) (by decide), ?_⟩
      rw [nI_clamp (by omega), hw k hk, iI_in hl]
      refine pk_le l (wt k) (fun z => hK _ ⟨l, by rw [nI_up], h1, h2, fun u hu z1 z2 => ?_⟩) (fun z => ⟨vp_in_nI (by omega) (by decide), ?_⟩)
      · by_cases e : u = k
        · subst e; exact z
        · exact h3 u (by omega) z1 z2
      · refine s_isContested hs hw hS hl ?_
        by_cases hcn : 1 < fb_ct (fun u => decide (wt u = wt k)) n
        · rw [if_pos hcn]
          refine wp_f (by decide) ⟨vp_in_nI (by omega) (by decide), ?_⟩
          rw [hw k hk, iI_in hl]
          refine hK _ ⟨wt k, by rw [nI_up], by omega, fun _ => hcn, fun u hu z1 z2 => ?_⟩
          by_cases e : u = k
          · subst e; exact Nat.le_refl _
          · exact Nat.le_trans (by omega) (h3 u (by omega) z1 z2)
        · rw [if_neg hcn]
          refine wp_t rfl (hK _ ⟨l, by rw [nI_up], h1, h2, fun u hu z1 z2 => ?_⟩)
          by_cases e : u = k
          · subst e; exact absurd z2 hcn
          · exact h3 u (by omega) z1 z2
  · rintro K _ ⟨l, rfl, h1, h2, h3⟩
    show J_X1_lowestContested_5 w post K (nI l) (nI n) g
    unfold J_X1_lowestContested_5
    rw [hs.1]
    have low : ∀ x : Nat, x < 64 → 1 < fb_ct (fun u => decide (wt u = x)) n → l ≤ x := fun x hx hcx => by
      obtain ⟨u, hu, e1, e2⟩ := cnt_mover hS hx hcx
      have := h3 u hu e2 (by rw [e1]; exact hcx)
      omega
    have e : cntd n wt = l := by
      unfold cntd
      by_cases hl : l < 64
      · refine fN_some hl (decide_eq_true (h2 hl)) (fun j hj => decide_eq_false (fun z => ?_))
        have := low j (by omega) z
        omega
      · rw [fN_none (fun i hi => decide_eq_false (fun z => by have := low i hi z; omega))]
        omega
    rw [e] at h
    refine pk_le n n (fun _ => And.symm (pk_eq l 64 (fun z => ?_) (fun z => ?_))) (fun z => absurd z (by omega))
    · rw [z, iI_out (Nat.le_refl _)] at h; exact h
    · rw [iI_in (by omega)] at h; exact h
theorem str_loop {P : Nat → Nat} {post : Int32 → St → Prop} {x : Int32} (hP : ∀ p : Nat, p < 4 → P p < 1000) (hg : ∀ p : Nat, p < 4 → g.1 (10 + 10 * w) p = nI (P p)) (h : post (iI 4 (strN P)) g) :
    lpP (fun K79 (z : Int32 × Int32 × Int32 × St) => J_X1_strongestFor_79 w x post K79 z.1 z.2.1 z.2.2.1 z.2.2.2) ((-1), 0, 0, g) := by
  refine lp_for 4 (fun k z => ∃ s m, z = (iI 4 s, nI m, nI k, g) ∧ s ≤ 4 ∧ m < 1000 ∧ (∀ p, p < k → P p ≤ m) ∧ ((s < 4 ∧ s < k ∧ P s = m ∧ 0 < m ∧ ∀ q, q < k → q ≠ s → P q < m) ∨ (s = 4 ∧ (m = 0 ∨ ∃ a b, a ≠ b ∧ a < k ∧ b < k ∧ P a = m ∧ P b = m)))) ?_ ?_ ?_
  · rintro K k _ hk ⟨s, m, rfl, hs4, hm, hb, hor⟩ hK
    show J_X1_strongestFor_79 w x post K (iI 4 s) (nI m) (nI k) g
    unfold J_X1_strongestFor_79 J_X1_strongestFor_123
    have hPk := hP k hk
    refine pk_le 4 k (fun z => absurd z (by omega)) (fun _ => ⟨vp_in_nI hk (by decide), ?_⟩)
    rw [nI_clamp (by omega), hg k hk]
    refine pk_le (P k) m (fun z => ⟨vp_in_nI hk (by decide), And.symm (pk_eq (P k) m (fun e => ?_) (fun e => ?_))⟩) (fun z => ⟨vp_in_nI hk (by decide), ?_⟩)
    · refine hK _ ⟨4, m, by rw [nI_up]; rfl, Nat.le_refl _, hm, fun p hp => ?_, Or.inr ⟨rfl, ?_⟩⟩
      · by_cases ep : p = k
        · subst ep; omega
        · exact hb p (by omega)
      · rcases hor with ⟨o1, o2, o3, o4, o5⟩ | ⟨o1, o2⟩
        · exact Or.inr ⟨s, k, by omega, by omega, by omega, o3, e⟩
        · rcases o2 with o2 | ⟨a, b, o3, o4, o5, o6, o7⟩
          · exact Or.inl o2
          · exact Or.inr ⟨a, b, o3, by omega, by omega, o6, o7⟩
    · refine hK _ ⟨s, m, by rw [nI_up], hs4, hm, fun p hp => ?_, ?_⟩
      · by_cases ep : p = k
        · subst ep; omega
        · exact hb p (by omega)
      · rcases hor with ⟨o1, o2, o3, o4, o5⟩ | ⟨o1, o2⟩
        · refine Or.inl ⟨o1, by omega, o3, o4, fun q hq hqs => ?_⟩
          by_cases ep : q = k
          · subst ep; omega
          · exact o5 q (by omega) hqs
        · refine Or.inr ⟨o1, ?_⟩
          rcases o2 with o2 | ⟨a, b, o3, o4, o5, o6, o7⟩
          · exact Or.inl o2
          · exact Or.inr ⟨a, b, o3, by omega, by omega, o6, o7⟩
    · refine hK _ ⟨k, P k, by rw [nI_up, iI_in hk], by omega, hPk, fun p hp => ?_, Or.inl ⟨hk, by omega, rfl, by omega, fun q hq hqs => ?_⟩⟩
      · by_cases ep : p = k
        · subst ep; exact Nat.le_refl _
        · have := hb p (by omega); omega
      · have := hb q (by omega); omega
  · rintro K _ ⟨s, m, rfl, hs4, hm, hb, hor⟩
    show J_X1_strongestFor_79 w x post K (iI 4 s) (nI m) (nI 4) g
    unfold J_X1_strongestFor_79
    have e : strN P = s := by
      unfold strN
      rcases hor with ⟨o1, o2, o3, o4, o5⟩ | ⟨o1, o2⟩
      · refine fN_one o1 ?_ (fun j hj hjp => ?_)
        · simp only [Bool.and_eq_true, decide_eq_true_eq]
          refine ⟨by omega, fun q hq => ?_⟩
          by_cases eq : q = s
          · exact Or.inl eq
          · exact Or.inr (by have := o5 q hq eq; omega)
        · simp only [Bool.and_eq_true, decide_eq_true_eq] at hjp
          by_cases ej : j = s
          · exact ej
          · have h5 := o5 j hj ej
            rcases hjp.2 s o1 with h6 | h6
            · exact h6.symm
            · omega
      · rw [o1]
        refine fN_none (fun i hi => ?_)
        cases hh : (decide (0 < P i) && decide (∀ q : Nat, q < 4 → q = i ∨ P q < P i)) with
        | false => rfl
        | true =>
          exfalso
          simp only [Bool.and_eq_true, decide_eq_true_eq] at hh
          rcases o2 with o2 | ⟨a, b, o3, o4, o5, o6, o7⟩
          · have := hb i hi; omega
          · have hbi := hb i hi
            rcases hh.2 a o4 with ha | ha
            · rcases hh.2 b o5 with hb2 | hb2
              · exact o3 (ha.trans hb2.symm)
              · omega
            · omega
    rw [e] at h
    exact pk_le 4 4 (fun _ => h) (fun z => absurd z (by omega))
  · exact ⟨4, 0, rfl, Nat.le_refl _, by omega, fun p hp => absurd hp (by omega), Or.inr ⟨rfl, Or.inl rfl⟩⟩
theorem powN_le (n : Nat) (x p : Nat) : powN n ow kk wt x p ≤ n * 3 := by
  unfold powN
  exact fb_sm_bound (fun u _ => by
    split
    · exact (pwN_le _).2
    · omega)
theorem s_strongest {x : Nat} {post : Int32 → St → Prop} (hs : CUs w sd n ow kk g) (hc : CUc w n c g) (hw : CUw w n wt g) (hx : x < 64) (hS : SI n c wt)
    (h : ∀ g', kp [8 + 10 * w, 9 + 10 * w, 10 + 10 * w] [] g g' → CUc w n c g' → CUw w n wt g' → post (iI 4 (strN (powN n ow kk wt x))) g') : V_X1_strongestFor w (nI x) g post := by
  unfold V_X1_strongestFor
  refine s_fill (by decide) ?_
  have h24 := hs.2.1
  have hk0 : kp [8 + 10 * w, 9 + 10 * w, 10 + 10 * w] [] g (sA g (10 + 10 * w) (s_fillF 4 0 (g.1 (10 + 10 * w)))) := kp_sA kp_rf (by simp)
  refine lp_for n (fun k z => z.1 = nI x ∧ z.2.1 = nI k ∧ kp [8 + 10 * w, 9 + 10 * w, 10 + 10 * w] [] g z.2.2 ∧ CUc w n c z.2.2 ∧ CUw w n wt z.2.2 ∧ ∀ p : Nat, p < 4 → z.2.2.1 (10 + 10 * w) p = nI (powN k ow kk wt x p)) ?_ ?_ ?_
  · rintro K k ⟨z1, z2, g1⟩ hk ⟨e1, e2, hkp, hc1, hw1, hp⟩ hK
    dsimp only at e1 e2 hkp hc1 hw1 hp
    subst e1 e2
    show J_X1_strongestFor_10 w (nI x) post K (nI x) (nI k) g1
    have hs1 := CUs_89 hs hkp
    obtain ⟨u1, u2, u3, u4⟩ := hs1.2.2.2 k hk
    unfold J_X1_strongestFor_10 J_X1_strongestFor_66
    rw [hs1.1]
    refine pk_le n k (fun z => absurd z (by omega)) (fun _ => s_owner hs1.1 h24 hk ⟨vp_in_nI (by omega) (by decide), ?_⟩)
    rw [nI_clamp (by omega), hw1 k hk, u1]
    by_cases e : wt k = x
    · refine wp_t2 (by rw [e, iI_in hx]) (wp_f (nI_pos (by omega)) (pk_le 4 (ow k) (fun z => absurd z (by omega)) (fun _ => ⟨vp_in_nI u2 (by decide), s_power hs1.1 h24 hk u3 u4 ⟨vp_in_nI u2 (by decide), hK _ ⟨rfl, nI_up k, kp_sA hkp (by simp), CUc_9 (by omega) hc1, CUw_8 (by omega) hw1, fun p hp4 => ?_⟩⟩⟩)))
      show (sA g1 (10 + 10 * w) _).1 (10 + 10 * w) p = _
      rw [sA_eq, nI_clamp (by omega), hp _ u2, kPowers_eq u4, nI_add]
      unfold upd
      by_cases ep : p = ow k
      · rw [if_pos ep, ep]
        congr 1
        unfold powN
        rw [fb_sm_succ, if_pos ⟨e, rfl⟩]
      · rw [if_neg ep, hp p hp4]
        congr 1
        unfold powN
        rw [fb_sm_succ, if_neg (fun z => ep z.2.symm)]
        rfl
    · refine wp_f2 (fun z => e ((iI_nI (by decide) hx).mp z)) (hK _ ⟨rfl, nI_up k, hkp, hc1, hw1, fun p hp4 => ?_⟩)
      rw [hp p hp4]
      congr 1
      unfold powN
      rw [fb_sm_succ, if_neg (fun z => e z.1)]
      rfl
  · rintro K ⟨z1, z2, g1⟩ ⟨e1, e2, hkp, hc1, hw1, hp⟩
    dsimp only at e1 e2 hkp hc1 hw1 hp
    subst e1 e2
    show J_X1_strongestFor_10 w (nI x) post K (nI x) (nI n) g1
    have hs1 := CUs_89 hs hkp
    unfold J_X1_strongestFor_10
    rw [hs1.1]
    refine pk_le n n (fun _ => str_loop (fun p _ => ?_) hp (h g1 hkp hc1 hw1)) (fun z => absurd z (by omega))
    have := powN_le (ow := ow) (kk := kk) (wt := wt) n x p
    omega
  · refine ⟨rfl, rfl, hk0, CUc_9 (by omega) hc, CUw_8 (by omega) hw, fun p hp4 => ?_⟩
    show (sA g (10 + 10 * w) _).1 (10 + 10 * w) p = _
    rw [sA_eq]
    exact if_pos hp4
theorem s_firstMover {x P : Nat} {post : Int32 → St → Prop} (hs : CUs w sd n ow kk g) (hw : CUw w n wt g) (hx : x < 64) (hP : P ≤ 4) (h : post (iI n (fN (fun u => decide (wt u = x ∧ ow u = P)) n)) g) : V_X1_firstMover w (nI x) (iI 4 P) g post := by
  unfold V_X1_firstMover
  have h24 := hs.2.1
  refine lp_for n (fun k z => z = (nI x, iI 4 P, nI k, g) ∧ post (iI n (fNf (fun u => decide (wt u = x ∧ ow u = P)) (n - k) k)) g) ?_ ?_ ⟨rfl, h⟩
  · rintro K k _ hk ⟨rfl, hp⟩ hK
    show J_X1_firstMover_2 w (nI x) (iI 4 P) post K (nI x) (iI 4 P) (nI k) g
    obtain ⟨u1, u2, u3, u4⟩ := hs.2.2.2 k hk
    unfold J_X1_firstMover_2 J_X1_firstMover_37
    rw [hs.1]
    rw [fNf_step _ hk] at hp
    refine pk_le n k (fun z => absurd z (by omega)) (fun _ => ⟨vp_in_nI (by omega) (by decide), ?_⟩)
    rw [nI_clamp (by omega), hw k hk]
    by_cases e : wt k = x
    · refine wp_t2 (by rw [e, iI_in hx]) (s_owner hs.1 h24 hk ?_)
      rw [u1]
      by_cases eo : ow k = P
      · rw [if_pos (decide_eq_true ⟨e, eo⟩), iI_in hk] at hp
        exact wp_t2 (by rw [← eo, iI_in u2]) hp
      · rw [if_neg (by simp [eo])] at hp
        refine wp_f2 (fun z => eo ((iI_nI (by decide) u2).mp z.symm).symm) (hK _ ⟨by rw [nI_up], hp⟩)
    · rw [if_neg (by simp [e])] at hp
      exact wp_f2 (fun z => e ((iI_nI (by decide) hx).mp z)) (hK _ ⟨by rw [nI_up], hp⟩)
  · rintro K _ ⟨rfl, hp⟩
    show J_X1_firstMover_2 w (nI x) (iI 4 P) post K (nI x) (iI 4 P) (nI n) g
    unfold J_X1_firstMover_2
    rw [hs.1]
    rw [fNf_end, iI_out (Nat.le_refl _)] at hp
    exact pk_le n n (fun _ => hp) (fun z => absurd z (by omega))
theorem s_turnBack {x e : Nat} {post : St → Prop} (hs : CUs w sd n ow kk g) (hc : CUc w n c g) (hw : CUw w n wt g) (hx : x < 64) (hS : SI n c wt) (he : e ≤ n)
    (h : ∀ g', kp [8 + 10 * w, 9 + 10 * w, 10 + 10 * w] [] g g' → CUc w n c g' → CUw w n (fun u => if wt u = x ∧ u ≠ e then c u else wt u) g' → post g') : V_X1_turnBack w (nI x) (iI n e) g post := by
  unfold V_X1_turnBack
  have h24 := hs.2.1
  refine lp_for n (fun k z => z.1 = nI x ∧ z.2.1 = iI n e ∧ z.2.2.1 = nI k ∧ kp [8 + 10 * w, 9 + 10 * w, 10 + 10 * w] [] g z.2.2.2 ∧ CUc w n c z.2.2.2 ∧ CUw w n (fun u => if u < k ∧ wt u = x ∧ u ≠ e then c u else wt u) z.2.2.2) ?_ ?_ ?_
  · rintro K k ⟨z1, z2, z3, g1⟩ hk ⟨e1, e2, e3, hkp, hc1, hw1⟩ hK
    dsimp only at e1 e2 e3 hkp hc1 hw1
    subst e1 e2 e3
    show J_X1_turnBack_2 w (nI x) (iI n e) post K (nI x) (iI n e) (nI k) g1
    have hs1 := CUs_89 hs hkp
    unfold J_X1_turnBack_2 J_X1_turnBack_42
    rw [hs1.1]
    refine pk_le n k (fun z => absurd z (by omega)) (fun _ => ⟨vp_in_nI (by omega) (by decide), ?_⟩)
    have hwk : g1.1 (9 + 10 * w) k = iI 64 (wt k) := by
      rw [hw1 k hk]
      show iI 64 (if k < k ∧ _ then _ else _) = _
      rw [if_neg (fun z => absurd z.1 (by omega))]
    rw [nI_clamp (by omega), hwk]
    have nxt : ∀ (hne : ¬ (wt k = x ∧ k ≠ e)), CUw w n (fun u => if u < k + 1 ∧ wt u = x ∧ u ≠ e then c u else wt u) g1 := fun hne => CUw_cong hw1 (fun u hu => by
      by_cases eu : u = k
      · subst eu
        rw [if_neg (fun z => absurd z.1 (by omega)), if_neg (fun z => hne z.2)]
      · have : (u < k + 1) = (u < k) := propext ⟨fun z => by omega, fun z => by omega⟩
        simp only [this])
    by_cases ex : wt k = x
    · refine wp_t2 (by rw [ex, iI_in hx]) ?_
      by_cases ee : k = e
      · exact wp_t (by rw [← ee, iI_in hk]) (hK _ ⟨rfl, rfl, nI_up k, hkp, hc1, nxt (fun z => z.2 ee)⟩)
      · refine wp_f (fun z => ee ((iI_nI (by omega) hk).mp z.symm).symm) (s_place hs1.1 h24 hk ⟨vp_in_nI (by omega) (by decide), hK _ ⟨rfl, rfl, nI_up k, kp_sA hkp (by simp), CUc_9 (by omega) hc1, ?_⟩⟩)
        rw [hc1 k hk]
        exact CUw_cong (CUw_up hw1) (fun u hu => by
          unfold updN
          by_cases eu : u = k
          · subst eu
            rw [if_pos rfl, if_pos ⟨by omega, ex, ee⟩]
          · have : (u < k + 1) = (u < k) := propext ⟨fun z => by omega, fun z => by omega⟩
            rw [if_neg eu]; simp only [this])
    · exact wp_f2 (fun z => ex ((iI_nI (by decide) hx).mp z)) (hK _ ⟨rfl, rfl, nI_up k, hkp, hc1, nxt (fun z => ex z.1)⟩)
  · rintro K ⟨z1, z2, z3, g1⟩ ⟨e1, e2, e3, hkp, hc1, hw1⟩
    dsimp only at e1 e2 e3 hkp hc1 hw1
    subst e1 e2 e3
    show J_X1_turnBack_2 w (nI x) (iI n e) post K (nI x) (iI n e) (nI n) g1
    have hs1 := CUs_89 hs hkp
    unfold J_X1_turnBack_2
    rw [hs1.1]
    refine pk_le n n (fun _ => h g1 hkp hc1 (CUw_cong hw1 (fun u hu => ?_))) (fun z => absurd z (by omega))
    have : (u < n ∧ wt u = x ∧ u ≠ e) = (wt u = x ∧ u ≠ e) := propext ⟨fun z => z.2, fun z => ⟨hu, z⟩⟩
    simp only [this]
  · exact ⟨rfl, rfl, rfl, kp_rf, hc, CUw_cong hw (fun u _ => (if_neg (fun z => absurd z.1 (by omega))).symm)⟩
theorem s_lookAt {x : Nat} {post : Int32 → St → Prop} (hs : CUs w sd n ow kk g) (hc : CUc w n c g) (hw : CUw w n wt g) (hx : x < 64) (hS : SI n c wt)
    (h : ∀ g', kp [8 + 10 * w, 9 + 10 * w, 10 + 10 * w] [] g g' → CUc w n (slC n ow kk c wt x) g' → CUw w n (slW n ow kk c wt x) g' → post (nI (if beaten n ow kk c wt x then 1 else 0)) g') : V_X1_lookAt w (nI x) g post := by
  have h24 := hs.2.1
  have hP4 : strN (powN n ow kk wt x) ≤ 4 := fN_le _ _
  unfold V_X1_lookAt
  refine s_on hs.1 h24 (nI_m1 (by omega)) ?_
  rw [fN_cong (q := fun v => decide (c v = x)) (fun v hv => by
    rw [hc v hv]
    exact decide_eq_decide.mpr (iI_nI (by decide) hx))]
  refine s_strongest hs hc hw hx hS (fun g1 hk1 hc1 hw1 => ?_)
  have hs1 := CUs_89 hs hk1
  -- nobody stands there who wants to stay
  have free : ∀ (hno : ¬ stdN n c wt x < n), J_X1_lookAt_30 w (nI x) post (nI x) (iI 4 (strN (powN n ow kk wt x))) g1 := fun hno => by
    have hb : ¬ beaten n ow kk c wt x := fun z => hno z.1
    unfold J_X1_lookAt_30
    refine s_firstMover hs1 hw1 hx hP4 ?_
    have hg : goesN n ow kk c wt x = fN (fun u => decide (wt u = x ∧ ow u = strN (powN n ow kk wt x))) n := if_neg hno
    rw [← hg]
    refine s_turnBack hs1 hc1 hw1 hx hS (by rw [hg]; exact fN_le _ _) (fun g2 hk2 hc2 hw2 => ?_)
    have h9 := h g2 (kp_tr hk1 hk2) (by unfold slC; rw [if_neg hb]; exact hc2) (by unfold slW; rw [if_neg hb]; exact hw2)
    rw [if_neg hb] at h9
    exact h9
  by_cases hv : fN (fun v => decide (c v = x)) n < n
  · have ev : c (fN (fun v => decide (c v = x)) n) = x := of_decide_eq_true (fN_lt hv).1
    generalize fN (fun v => decide (c v = x)) n = v at hv ev
    rw [iI_in hv]
    refine wp_f (nI_m1 (by omega)) ⟨vp_in_nI (by omega) (by decide), ?_⟩
    rw [nI_clamp (by omega), hw1 v hv]
    by_cases ew : wt v = x
    · have es : stdN n c wt x = v := fN_one hv (decide_eq_true ⟨ev, ew⟩) (fun j hj hjp => by
        have := of_decide_eq_true hjp
        exact hS.2 j v hj hv (by omega) (by omega))
      have stay : ∀ (hb : ¬ beaten n ow kk c wt x), J_X1_lookAt_60 w (nI x) post (nI x) g1 := fun hb => by
        unfold J_X1_lookAt_60
        have hg : goesN n ow kk c wt x = n := if_pos (by rw [es]; exact hv)
        have := s_turnBack (e := n) (post := fun g8 => post 0 g8) hs1 hc1 hw1 hx hS (Nat.le_refl _) (fun g2 hk2 hc2 hw2 => by
          have h9 := h g2 (kp_tr hk1 hk2) (by unfold slC; rw [if_neg hb]; exact hc2) (by unfold slW; rw [if_neg hb, hg]; exact hw2)
          rw [if_neg hb] at h9
          exact h9)
        rw [iI_out (Nat.le_refl _)] at this
        exact this
      refine wp_t (by rw [ew, iI_in hx]) ?_
      by_cases hp4 : strN (powN n ow kk wt x) < 4
      · refine wp_f (by rw [iI_in hp4]; exact nI_m1 (by omega)) (s_owner hs1.1 h24 hv ?_)
        rw [(hs1.2.2.2 v hv).1]
        by_cases ho : strN (powN n ow kk wt x) = ow v
        · refine wp_t2 (by rw [ho, iI_in (hs1.2.2.2 v hv).2.1]) (stay (fun z => ?_))
          have z := z.2.2; rw [es] at z
          exact z ho
        · have hb : beaten n ow kk c wt x := by unfold beaten; rw [es]; exact ⟨hv, hp4, ho⟩
          refine wp_f2 (fun z => ho ((iI_nI (by decide) (hs1.2.2.2 v hv).2.1).mp z)) (s_lose hs1.1 h24 hv hc1 hw1 (fun g2 hk2 hc2 hw2 => ?_))
          have h9 := h g2 (kp_tr hk1 hk2) (by unfold slC; rw [if_pos hb, es]; exact hc2) (by unfold slW; rw [if_pos hb, es]; exact hw2)
          rw [if_pos hb] at h9
          exact h9
      · refine wp_t (iI_out (by omega)) (stay (fun z => hp4 z.2.1))
    · refine wp_f (fun z => ew ((iI_nI (by decide) hx).mp z)) (free (fun hno => ?_))
      have hh := of_decide_eq_true (fN_lt hno).1
      have : stdN n c wt x = v := hS.2 _ v hno hv (by have := hh.1; unfold stdN at *; omega) (by have := hh.1; unfold stdN at *; omega)
      rw [← this] at ew
      exact ew hh.2
  · rw [iI_out (by omega)]
    refine wp_t rfl (free (fun hno => ?_))
    have hh := of_decide_eq_true (fN_lt hno).1
    exact (of_decide_eq_false (fN_no hv hno)) hh.1
theorem s_settle {post : Int32 → St → Prop} (hs : CUs w sd n ow kk g) (hc : CUc w n c g) (hw : CUw w n wt g) (hS : SI n c wt)
    (h : ∀ m g', kp [8 + 10 * w, 9 + 10 * w, 10 + 10 * w] [] g g' → CUc w n (stl n ow kk 48 (c, wt)).1 g' → CUw w n (stl n ow kk 48 (c, wt)).2 g' → m + livN n (stl n ow kk 48 (c, wt)).1 = livN n c → post (nI m) g') : V_X1_settleCells w g post := by
  unfold V_X1_settleCells
  refine lp_for 48 (fun k z => ∃ (m : Nat) (S : (Nat → Nat) × (Nat → Nat)), z.1 = nI m ∧ z.2.1 = nI k ∧ kp [8 + 10 * w, 9 + 10 * w, 10 + 10 * w] [] g z.2.2 ∧ CUc w n S.1 z.2.2 ∧ CUw w n S.2 z.2.2 ∧ SI n S.1 S.2 ∧ stl n ow kk (48 - k) S = stl n ow kk 48 (c, wt) ∧ m + livN n S.1 = livN n c) ?_ ?_ ?_
  · rintro K k ⟨z1, z2, g1⟩ hk ⟨m, S, e1, e2, hkp, hc1, hw1, hS1, hst, hm⟩ hK
    dsimp only at e1 e2 hkp hc1 hw1
    subst e1 e2
    show J_X1_settleCells_4 w post K (nI m) (nI k) g1
    have hs1 := CUs_89 hs hkp
    unfold J_X1_settleCells_4
    refine pk_le 48 k (fun z => absurd z (by omega)) (fun _ => s_lowest hs1 hc1 hw1 hS1 ?_)
    have e48 : 48 - k = (48 - (k + 1)) + 1 := by omega
    rw [e48] at hst
    unfold stl at hst
    by_cases hcn : cntd n S.2 = 64
    · rw [if_pos hcn] at hst
      rw [hcn, iI_out (Nat.le_refl _)]
      refine wp_t2 rfl ?_
      rw [hst] at hc1 hw1 hm
      exact h m g1 hkp hc1 hw1 hm
    · rw [if_neg hcn] at hst
      obtain ⟨x1, x2⟩ := cntd_in hcn
      rw [iI_in x1]
      obtain ⟨y1, y2, y3⟩ := slv_ok (ow := ow) (kk := kk) hS1 x1 x2
      refine wp_f2 (nI_m1 (by omega)) (s_lookAt hs1 hc1 hw1 x1 hS1 (fun g2 q1 q2 q3 => hK _ ⟨m + (if beaten n ow kk S.1 S.2 (cntd n S.2) then 1 else 0), (slC n ow kk S.1 S.2 (cntd n S.2), slW n ow kk S.1 S.2 (cntd n S.2)), nI_add _ _, nI_up k, kp_tr hkp q1, q2, q3, y1, hst, ?_⟩))
      dsimp only
      omega
  · rintro K ⟨z1, z2, g1⟩ ⟨m, S, e1, e2, hkp, hc1, hw1, hS1, hst, hm⟩
    dsimp only at e1 e2 hkp hc1 hw1
    subst e1 e2
    show J_X1_settleCells_4 w post K (nI m) (nI 48) g1
    unfold J_X1_settleCells_4
    have hst : S = stl n ow kk 48 (c, wt) := hst
    rw [hst] at hc1 hw1 hm
    exact pk_le 48 48 (fun _ => h m g1 hkp hc1 hw1 hm) (fun z => absurd z (by omega))
  · exact ⟨0, (c, wt), rfl, rfl, kp_rf, hc, hw, hS, rfl, Nat.zero_add _⟩
theorem s_moveAll {post : St → Prop} (hs : CUs w sd n ow kk g) (hc : CUc w n c g) (hw : CUw w n wt g)
    (h : ∀ g', kp [8 + 10 * w, 9 + 10 * w, 10 + 10 * w] [] g g' → CUc w n wt g' → post g') : V_X1_moveAll w g post := by
  unfold V_X1_moveAll
  have h24 := hs.2.1
  refine lp_for n (fun k z => z.1 = nI k ∧ kp [8 + 10 * w, 9 + 10 * w, 10 + 10 * w] [] g z.2 ∧ CUc w n (fun u => if u < k then wt u else c u) z.2 ∧ CUw w n wt z.2) ?_ ?_ ?_
  · rintro K k ⟨z1, g1⟩ hk ⟨e1, hkp, hc1, hw1⟩ hK
    dsimp only at e1 hkp hc1 hw1
    subst e1
    show J_X1_moveAll_2 w post K (nI k) g1
    have hs1 := CUs_89 hs hkp
    unfold J_X1_moveAll_2
    rw [hs1.1]
    refine pk_le n k (fun z => absurd z (by omega)) (fun _ => ⟨vp_in_nI (by omega) (by decide), s_move hs1.1 h24 hk (hK _ ⟨nI_up k, kp_sA hkp (by simp), ?_, CUw_8 (by omega) hw1⟩)⟩)
    rw [nI_clamp (by omega), hw1 k hk]
    exact CUc_cong (CUc_up hc1) (fun u hu => by
      unfold updN
      by_cases eu : u = k
      · subst eu; rw [if_pos rfl, if_pos (by omega)]
      · have : (u < k + 1) = (u < k) := propext ⟨fun z => by omega, fun z => by omega⟩
        rw [if_neg eu]; simp only [this])
  · rintro K ⟨z1, g1⟩ ⟨e1, hkp, hc1, hw1⟩
    dsimp only at e1 hkp hc1 hw1
    subst e1
    show J_X1_moveAll_2 w post K (nI n) g1
    have hs1 := CUs_89 hs hkp
    unfold J_X1_moveAll_2
    rw [hs1.1]
    exact pk_le n n (fun _ => h g1 hkp (CUc_cong hc1 (fun u hu => if_pos hu))) (fun z => absurd z (by omega))
  · exact ⟨rfl, kp_rf, CUc_cong hc (fun u _ => (if_neg (Nat.not_lt_zero u)).symm), hw⟩
/-- the orders of a turn, as they lie -/
def spN (t u k : Nat) : Nat := (t * 24 + u) * 2 + k
def COd (n t : Nat) (k : Nat) (dr : Nat → Nat) (g : St) : Prop := ∀ u, u < n → g.1 22 (spN t u k) = iI 8 (dr u)
theorem s_spotOf {t u k : Nat} {post : Int32 → Prop} (ht : t ≤ 99) (hu : u < 24) (hk : k < 2) (h : post (nI (spN t u k))) : V_X4_spotOf (nI t) (nI u) (nI k) post := by
  unfold V_X4_spotOf
  refine wp_f (nI_pos (by omega)) (wp_f (nI_nlt ht (by decide)) (wp_f (nI_pos (by omega)) (pk_le 24 u (fun z => absurd z (by omega)) (fun _ => wp_f (nI_pos (by omega)) (pk_le 2 k (fun z => absurd z (by omega)) (fun _ => ?_))))))
  unfold J_X4_spotOf_34
  refine wp_f (by decide) ?_
  have e : (nI t * 24 + nI u) * 2 + nI k = nI (spN t u k) := by
    show (nI t * nI 24 + nI u) * nI 2 + nI k = _
    rw [pk_mul, nI_add, pk_mul, nI_add]; rfl
  rw [e]
  exact h
theorem s_direction {t u k : Nat} {post : Int32 → St → Prop} (ht : t ≤ 99) (hu : u < 24) (hk : k < 2) (h : post (g.1 22 (spN t u k)) g) : V_X4_direction (nI t) (nI u) (nI k) g post := by
  unfold V_X4_direction
  have hb : spN t u k < 4800 := by unfold spN; omega
  refine s_spotOf ht hu hk (wp_f2 (nI_m1 (by omega)) ⟨vp_in_nI hb (by decide), ?_⟩)
  rw [nI_clamp (by omega)]
  exact h
theorem s_readWants {t k : Nat} {dr : Nat → Nat} {post : Int32 → St → Prop} (hw2 : w < 2) (ht : t ≤ 99) (hk2 : k < 2) (hs : CUs w sd n ow kk g) (hc : CUc w n c g) (hC : Cok n c) (hd : COd n t k dr g)
    (h : ∀ g', kp [8 + 10 * w, 9 + 10 * w, 10 + 10 * w] [] g g' → CUc w n c g' → CUw w n (wt0 sd dr c) g' → post (if ∃ u, u < n ∧ wt0 sd dr c u ≠ c u then 1 else 0) g') : V_X1_readWants w (nI t) (nI k) g post := by
  unfold V_X1_readWants
  have h24 := hs.2.1
  have hS := SI_0 (sd := sd) (dr := dr) hC
  refine lp_for n (fun i z => z.1 = nI t ∧ z.2.1 = nI k ∧ z.2.2.1 = (if ∃ u, u < i ∧ wt0 sd dr c u ≠ c u then 1 else 0) ∧ z.2.2.2.1 = nI i ∧ kp [8 + 10 * w, 9 + 10 * w, 10 + 10 * w] [] g z.2.2.2.2 ∧ CUc w n c z.2.2.2.2 ∧ ∀ u, u < i → z.2.2.2.2.1 (9 + 10 * w) u = iI 64 (wt0 sd dr c u)) ?_ ?_ ?_
  · rintro K i ⟨z1, z2, z3, z4, g1⟩ hi ⟨e1, e2, e3, e4, hkp, hc1, hw1⟩ hK
    dsimp only at e1 e2 e3 e4 hkp hc1 hw1
    subst e1 e2 e3 e4
    show J_X1_readWants_6 w (nI t) (nI k) post K (nI t) (nI k) _ (nI i) g1
    have hs1 := CUs_89 hs hkp
    unfold J_X1_readWants_6 J_X1_readWants_79
    rw [hs1.1]
    refine pk_le n i (fun z => absurd z (by omega)) (fun _ => s_place hs1.1 h24 hi ⟨vp_in_nI (by omega) (by decide), ?_⟩)
    rw [hc1 i hi, nI_clamp (by omega)]
    have hci := hC.1 i hi
    by_cases hl : c i < 64
    · have hwi : wt0 sd dr c i = tgN sd (c i) (dr i) := if_pos hl
      have htl := tgN_lt (sd := sd) (d := dr i) hl
      refine wp_f (fun z => absurd ((iI_m1 (by decide)).mp z) (by omega)) (s_direction ht (by omega) hk2 ?_)
      have hdi : (sA g1 (9 + 10 * w) (upd (g1.1 (9 + 10 * w)) i (iI 64 (c i)))).1 22 (spN t i k) = iI 8 (dr i) := by
        rw [sA_ne _ _ (by omega), hkp.1 22 (by simp <;> omega)]
        exact hd i hi
      rw [hdi, iI_in hl]
      refine s_beside (sd := sd) (fun j hj => by rw [sA_ne _ _ (by omega)]; exact hs1.2.2.1 j hj) hl ⟨vp_in_nI (by omega) (by decide), ?_⟩
      rw [sA_eq, sA_sA]
      generalize hg2 : sA g1 (9 + 10 * w) (upd (upd (g1.1 (9 + 10 * w)) i (nI (c i))) i (nI (tgN sd (c i) (dr i)))) = g2
      have k2 : kp [8 + 10 * w, 9 + 10 * w, 10 + 10 * w] [] g g2 := by rw [← hg2]; exact kp_sA hkp (by simp)
      have c2 : CUc w n c g2 := by rw [← hg2]; exact CUc_9 (by omega) hc1
      have w2 : ∀ u, u < i + 1 → g2.1 (9 + 10 * w) u = iI 64 (wt0 sd dr c u) := fun u hu => by
        rw [← hg2, sA_eq]
        unfold upd
        by_cases eu : u = i
        · subst eu
          rw [if_pos rfl, hwi, iI_in htl]
        · rw [if_neg eu, if_neg eu]
          exact hw1 u (by omega)
      have hs2 := CUs_89 hs k2
      refine s_isMover hs2.1 h24 hi (hK _ ⟨rfl, rfl, ?_, nI_up i, k2, c2, w2⟩)
      dsimp only
      rw [w2 i (by omega), c2 i hi]
      by_cases ex : ∃ u, u < i ∧ wt0 sd dr c u ≠ c u
      · obtain ⟨u, hu, hne⟩ := ex
        have p1 : ∃ u, u < i ∧ wt0 sd dr c u ≠ c u := ⟨u, hu, hne⟩
        have p2 : ∃ u, u < i + 1 ∧ wt0 sd dr c u ≠ c u := ⟨u, by omega, hne⟩
        rw [if_pos p1, if_pos p2]
        split <;> decide
      · rw [if_neg ex]
        by_cases em : wt0 sd dr c i = c i
        · rw [if_pos (by rw [em]), if_neg (fun ⟨u, hu, hne⟩ => by
            by_cases eu : u = i
            · subst eu; exact hne em
            · exact ex ⟨u, by omega, hne⟩)]
          decide
        · rw [if_neg (fun z => em ((iI_inj (by decide) (by rw [hwi]; omega) hci).mp z)), if_pos ⟨i, by omega, em⟩]
          decide
    · have hwi : wt0 sd dr c i = 64 := if_neg hl
      have hc64 : c i = 64 := by omega
      refine wp_t (by rw [hc64]; rfl) (hK _ ⟨rfl, rfl, ?_, nI_up i, kp_sA hkp (by simp), CUc_9 (by omega) hc1, fun u hu => ?_⟩)
      · dsimp only
        have : (∃ u, u < i + 1 ∧ wt0 sd dr c u ≠ c u) ↔ (∃ u, u < i ∧ wt0 sd dr c u ≠ c u) := ⟨fun ⟨u, hu, hne⟩ => by
          by_cases eu : u = i
          · subst eu; exact absurd (hwi.trans hc64.symm) hne
          · exact ⟨u, by omega, hne⟩, fun ⟨u, hu, hne⟩ => ⟨u, by omega, hne⟩⟩
        simp only [this]
      · show (sA g1 (9 + 10 * w) _).1 (9 + 10 * w) u = _
        rw [sA_eq]
        unfold upd
        by_cases eu : u = i
        · subst eu
          rw [if_pos rfl, hwi, hc64]
        · rw [if_neg eu]
          exact hw1 u (by omega)
  · rintro K ⟨z1, z2, z3, z4, g1⟩ ⟨e1, e2, e3, e4, hkp, hc1, hw1⟩
    dsimp only at e1 e2 e3 e4 hkp hc1 hw1
    subst e1 e2 e3 e4
    show J_X1_readWants_6 w (nI t) (nI k) post K (nI t) (nI k) _ (nI n) g1
    have hs1 := CUs_89 hs hkp
    unfold J_X1_readWants_6
    rw [hs1.1]
    refine pk_le n n (fun _ => ⟨?_, h g1 hkp hc1 hw1⟩) (fun z => absurd z (by omega))
    dsimp only; split <;> first | exact narrow_b1 | exact narrow_b0
  · refine ⟨rfl, rfl, ?_, rfl, kp_rf, hc, fun u hu => absurd hu (by omega)⟩
    dsimp only
    rw [if_neg (fun ⟨u, hu, _⟩ => absurd hu (by omega))]
/-- a step in which nobody wants to go anywhere -/
theorem stepN_id {dr : Nat → Nat} (hn : n ≤ 24) (hC : Cok n c) (h : ¬ ∃ u, u < n ∧ wt0 sd dr c u ≠ c u) : ∀ u, u < n → stepN n ow kk sd dr c u = c u := by
  have hw : ∀ u, u < n → wt0 sd dr c u = c u := fun u hu => by
    by_cases e : wt0 sd dr c u = c u
    · exact e
    · exact absurd ⟨u, hu, e⟩ h
  have hno : ∀ u v, u < n → v < n → ¬ fcs ow c (wt0 sd dr c) u v := fun u v hu _ hf => hf.2.2.1 ((hw u hu).symm.trans hf.2.2.2.1)
  have hW : ∀ u, u < n → pW n ow kk c (wt0 sd dr c) allK u = c u := fun u hu => by
    have hp : ¬ ptn n ow c (wt0 sd dr c) u < n := fun z => hno u _ hu z (ptn_lt z)
    unfold pW
    rw [if_neg (fun z => hp z.1), if_neg (fun z => hp z.1)]
    exact hw u hu
  have hc64 : cntd n (pW n ow kk c (wt0 sd dr c) allK) = 64 := by
    by_cases e : cntd n (pW n ow kk c (wt0 sd dr c) allK) = 64
    · exact e
    · exfalso
      obtain ⟨h1, h2⟩ := cntd_in e
      obtain ⟨a, b, hab, ha, hb, pa, pb⟩ := ct_two h2
      have pa := of_decide_eq_true pa
      have pb := of_decide_eq_true pb
      rw [hW a ha] at pa
      rw [hW b hb] at pb
      exact hab (hC.2 a b ha hb (by omega) (by omega))
  intro u hu
  have e : stepN n ow kk sd dr c = pW n ow kk c (wt0 sd dr c) allK := by
    unfold stepN
    show (stl n ow kk (47 + 1) _).2 = _
    unfold stl
    rw [if_pos hc64]
  rw [e]
  exact hW u hu
theorem s_playTurn {t : Nat} {d0 d1 : Nat → Nat} {post : Int32 → St → Prop} (hw2 : w < 2) (ht : t ≤ 99) (hs : CUs w sd n ow kk g) (hc : CUc w n c g) (hC : Cok n c) (h0 : COd n t 0 d0 g) (h1 : COd n t 1 d1 g)
    (h : ∀ m g', kp [8 + 10 * w, 9 + 10 * w, 10 + 10 * w] [] g g' → CUc w n (stepN n ow kk sd d1 (stepN n ow kk sd d0 c)) g' → m + livN n (stepN n ow kk sd d1 (stepN n ow kk sd d0 c)) = livN n c → post (nI m) g') : V_X1_playTurn w (nI t) g post := by
  unfold V_X1_playTurn
  have h24 := hs.2.1
  have drk : ∀ k : Nat, k < 2 → COd n t k (if k = 0 then d0 else d1) g := fun k hk => by
    by_cases e : k = 0
    · subst e; exact h0
    · have : k = 1 := by omega
      subst this; exact h1
  refine lp_for 2 (fun k z => ∃ (m : Nat) (cc : Nat → Nat), z.1 = nI t ∧ z.2.1 = nI m ∧ z.2.2.1 = nI k ∧ kp [8 + 10 * w, 9 + 10 * w, 10 + 10 * w] [] g z.2.2.2 ∧ CUc w n cc z.2.2.2 ∧ Cok n cc ∧ cc = (if k = 0 then c else if k = 1 then stepN n ow kk sd d0 c else stepN n ow kk sd d1 (stepN n ow kk sd d0 c)) ∧ m + livN n cc = livN n c) ?_ ?_ ?_
  · rintro K k ⟨z1, z2, z3, g1⟩ hk ⟨m, cc, e1, e2, e3, hkp, hc1, hC1, ecc, hm⟩ hK
    dsimp only at e1 e2 e3 hkp hc1
    subst e1 e2 e3
    show J_X1_playTurn_5 w (nI t) post K (nI t) (nI m) (nI k) g1
    have hs1 := CUs_89 hs hkp
    have hd1 : COd n t k (if k = 0 then d0 else d1) g1 := fun u hu => by rw [hkp.1 22 (by simp <;> omega)]; exact drk k hk u hu
    have enx : stepN n ow kk sd (if k = 0 then d0 else d1) cc = (if k + 1 = 0 then c else if k + 1 = 1 then stepN n ow kk sd d0 c else stepN n ow kk sd d1 (stepN n ow kk sd d0 c)) := by
      rw [ecc]
      by_cases e : k = 0
      · subst e; rfl
      · have : k = 1 := by omega
        subst this; rfl
    have hok := stepN_ok (ow := ow) (kk := kk) (sd := sd) (dr := if k = 0 then d0 else d1) h24 hC1
    generalize (if k = 0 then d0 else d1) = dr at hd1 enx hok
    unfold J_X1_playTurn_5 J_X1_playTurn_40
    refine pk_le 2 k (fun z => absurd z (by omega)) (fun _ => s_readWants hw2 ht hk hs1 hc1 hC1 hd1 (fun g2 q1 q2 q3 => ?_))
    by_cases ex : ∃ u, u < n ∧ wt0 sd dr cc u ≠ cc u
    · rw [if_pos ex]
      have hs2 := CUs_89 hs1 q1
      have hS := SI_0 (sd := sd) (dr := dr) hC1
      refine wp_f (by decide) (s_meetPairs hs2 q2 q3 hS (fun m1 g3 r1 r2 r3 r4 => ?_))
      have hs3 := CUs_89 hs2 r1
      refine s_settle hs3 r2 r3 (SI_pair hS) (fun m2 g4 t1 t2 t3 t4 => ?_)
      have hs4 := CUs_89 hs3 t1
      refine s_moveAll hs4 t2 t3 (fun g5 x1 x2 => hK _ ⟨m + m1 + m2, stepN n ow kk sd dr cc, rfl, ?_, nI_up k, kp_tr hkp (kp_tr q1 (kp_tr r1 (kp_tr t1 x1))), x2, hok, enx, ?_⟩)
      · dsimp only
        rw [nI_add, nI_add]
      · have hSS := (stl_ok (ow := ow) (kk := kk) 48 (pC n ow kk cc (wt0 sd dr cc) allK, pW n ow kk cc (wt0 sd dr cc) allK) (SI_pair hS) (ms_48 h24)).1
        have el : livN n (stepN n ow kk sd dr cc) = livN n (stl n ow kk 48 (pC n ow kk cc (wt0 sd dr cc) allK, pW n ow kk cc (wt0 sd dr cc) allK)).1 := by
          unfold livN stepN
          refine fb_ct_cong (fun u hu => decide_eq_decide.mpr ?_)
          obtain ⟨y1, y2, y3⟩ := hSS.1 u hu
          constructor
          · intro z
            have : ¬ _ = 64 := fun e => by have := y3.mp e; omega
            omega
          · intro z
            have : ¬ _ = 64 := fun e => by have := y3.mpr e; omega
            omega
        omega
    · rw [if_neg ex]
      refine wp_t rfl (hK _ ⟨m, stepN n ow kk sd dr cc, rfl, rfl, nI_up k, kp_tr hkp q1, ?_, hok, enx, ?_⟩)
      · exact CUc_cong q2 (fun u hu => (stepN_id h24 hC1 ex u hu).symm)
      · rw [livN_cong (fun u hu => stepN_id (ow := ow) (kk := kk) h24 hC1 ex u hu)]
        exact hm
  · rintro K ⟨z1, z2, z3, g1⟩ ⟨m, cc, e1, e2, e3, hkp, hc1, hC1, ecc, hm⟩
    dsimp only at e1 e2 e3 hkp hc1
    subst e1 e2 e3
    show J_X1_playTurn_5 w (nI t) post K (nI t) (nI m) (nI 2) g1
    unfold J_X1_playTurn_5
    have ecc : cc = stepN n ow kk sd d1 (stepN n ow kk sd d0 c) := ecc
    rw [ecc] at hc1 hm
    exact pk_le 2 2 (fun _ => h m g1 hkp hc1 hm) (fun z => absurd z (by omega))
  · exact ⟨0, c, rfl, rfl, rfl, kp_rf, hc, hC, rfl, Nat.zero_add _⟩
end CF2
