/-! PART 79: soundness -/
section SO
variable {x1 x2 x3 : Int32} {g mu : St} {f : Nat → Int64} {fd : Nat → UInt64} {K : St → (Nat → Int64) → (Nat → UInt64) → St → Prop}
variable {sd : Int32} {n t : Nat} {sv : Bool} {ow kk s0 : Nat → Nat} {D : Nat → Nat → Nat → Nat} {m : Nat → Nat} {J : Nat → Nat × (Nat → Nat)} {tr : Nat → Nat → Bool} {F : Nat → Nat × (Nat → Nat)} {bk al en : Nat → Nat → Bool}
theorem up_eq {a : Nat → Int32} {k : Nat} {x : Int32} : upd a k x k = x := if_pos rfl
theorem up_ne {a : Nat → Int32} {k j : Nat} {x : Int32} (h : j ≠ k) : upd a k x j = a j := if_neg h
theorem s_startLike {post : St → Prop} (hs : CUs 0 sd n ow kk g) (h7 : ∀ u, u < n → g.1 7 u = nI (s0 u)) (h64 : ∀ u, u < n → s0 u < 64) (h13 : ∀ i : Nat, i < 64 → g.1 13 i = nI (gN sd i))
    (h : ∀ g', kp [15, 16, 17, 18] [4] g g' → CUs 1 sd n ow kk g' → CUc 1 n s0 g' → post g') : V_X5_startLike g post := by
  obtain ⟨hn, h24, hG, hU⟩ := hs
  unfold V_X5_startLike
  refine lp_for n (fun k y => y.1 = nI k ∧ kp [15, 16, 17, 18] [4] g y.2 ∧ y.2.2 4 = nI k ∧ ∀ u, u < k → y.2.1 15 u = nI (ow u) ∧ y.2.1 16 u = nI (kk u) ∧ y.2.1 18 u = nI (s0 u)) ?_ ?_ ?_
  · rintro K7 k ⟨y1, g1⟩ hk ⟨e1, k1, e4, hA⟩ hK7
    dsimp only at e1 k1 e4 hA
    subst e1
    show J_X5_startLike_7 post K7 (nI k) g1
    have e3 : g1.2 3 = nI n := (k1.2 3 (by simp)).trans hn
    have iv : vp_in (nI k) 24 := vp_in_nI (by omega) (by omega)
    have d5 : g1.1 5 k = nI (ow k) := by rw [k1.1 5 (by simp)]; exact (hU k hk).1
    have d6 : g1.1 6 k = nI (kk k) := by rw [k1.1 6 (by simp)]; exact (hU k hk).2.2.1
    have d7 : g1.1 7 k = nI (s0 k) := by rw [k1.1 7 (by simp)]; exact h7 k hk
    unfold J_X5_startLike_7
    rw [e3, nI_clamp (n := k) (by omega), d5, d6, d7]
    refine pk_le n k (fun z => absurd z (by omega)) (fun _ => ⟨iv, iv, iv, s_put (w := 1) e4 (by omega) (fun g2 k2 a4 a5 a6 a7 a8 => hK7 _ ?_)⟩)
    have k2 : kp [15, 16, 17, 18] [4] g1 g2 := k2
    have a5 : g2.1 15 = upd (g1.1 15) k (nI (ow k)) := a5
    have a6 : g2.1 16 = upd (g1.1 16) k (nI (kk k)) := a6
    have a8 : g2.1 18 = upd (g1.1 18) k (nI (s0 k)) := a8
    refine ⟨nI_up k, kp_tr k1 k2, a4, fun u hu => ?_⟩
    show g2.1 15 u = _ ∧ g2.1 16 u = _ ∧ g2.1 18 u = _
    rw [a5, a6, a8]
    by_cases e : u = k
    · rw [e]
      exact ⟨up_eq, up_eq, up_eq⟩
    · obtain ⟨b1, b2, b3⟩ := hA u (by omega)
      exact ⟨(up_ne e).trans b1, (up_ne e).trans b2, (up_ne e).trans b3⟩
  · rintro K7 ⟨y1, g1⟩ ⟨e1, k1, e4, hA⟩
    dsimp only at e1 k1 e4 hA
    subst e1
    show J_X5_startLike_7 post K7 (nI n) g1
    have e3 : g1.2 3 = nI n := (k1.2 3 (by simp)).trans hn
    unfold J_X5_startLike_7
    rw [e3]
    refine pk_le n n (fun _ => h g1 k1 ⟨e4, h24, fun i hi => ?_, fun u hu => ?_⟩ (fun u hu => ?_)) (fun z => absurd z (by omega))
    · show g1.1 13 i = _
      rw [k1.1 13 (by simp)]
      exact h13 i hi
    · exact ⟨(hA u hu).1, (hU u hu).2.1, (hA u hu).2.1, (hU u hu).2.2.2⟩
    · show g1.1 18 u = _
      rw [iI_in (h64 u hu)]
      exact (hA u hu).2.2
  · exact ⟨rfl, kp_sS kp_rf (by simp), sS_eq _ _ _, fun u hu => absurd hu (Nat.not_lt_zero u)⟩
theorem s_replayed {post : Int32 → St → Prop} (hC : RC sd n t sv ow kk s0 D m J tr F bk al en g) (hP : RP n t ow s0 D m J tr F bk)
    (h : ∀ g', kp [13, 15, 16, 17, 18, 19, 20] [4] g g' → post 1 g') : V_X6_unitsAreWhereReplayed g post := by
  obtain ⟨a1, a2, a3, a4, a5, a6, a7, a8, a9, a10⟩ := hC
  have ht := hP.1
  have h24 := a1.2.1
  unfold V_X6_unitsAreWhereReplayed
  rw [a2]
  refine s_grow (w := 1) ?_
  have kg : kp [13] [] g (sA g (3 + 10 * 1) (fun c => if c < 64 then nI (gN sd c) else g.1 (3 + 10 * 1) c)) := kp_sA kp_rf (by simp)
  have eg : ∀ i : Nat, i < 64 → (sA g (3 + 10 * 1) (fun c => if c < 64 then nI (gN sd c) else g.1 (3 + 10 * 1) c)).1 13 i = nI (gN sd i) := fun i hi => by
    show (sA g 13 _).1 13 i = _
    rw [sA_eq]
    exact if_pos hi
  generalize sA g (3 + 10 * 1) (fun c => if c < 64 then nI (gN sd c) else g.1 (3 + 10 * 1) c) = g1 at kg eg
  refine s_startLike (CUs_kp a1 kg (by simp) (by simp) (by simp) (by simp)) (fun u hu => by rw [kg.1 7 (by simp)]; exact a4 u hu) hP.2.2.1 eg (fun g2 k2 hs2 hc2 => ?_)
  have k02 : kp [13, 15, 16, 17, 18, 19, 20] [4] g g2 := kp_tr (kp_up kg (by simp) (by simp)) (kp_up k2 (by simp <;> omega) (by simp))
  refine lp_for t (fun k y => y.1 = nI k ∧ kp [13, 15, 16, 17, 18, 19, 20] [4] g y.2 ∧ CUs 1 sd n ow kk y.2 ∧ CUc 1 n (posH n ow kk sd s0 D k) y.2) ?_ ?_ ⟨rfl, k02, hs2, ?_⟩
  · rintro K3 k ⟨y1, g3⟩ hk ⟨e1, k3, hs3, hc3⟩ hK3
    dsimp only at e1 k3 hs3 hc3
    subst e1
    show J_X6_unitsAreWhereReplayed_33 post K3 (nI k) g3
    have e1 : g3.2 1 = nI t := (k3.2 1 (by simp)).trans a5
    have hO := COall_kp a6 k3 (by simp) (by simp)
    unfold J_X6_unitsAreWhereReplayed_33
    rw [e1]
    refine pk_le t k (fun z => absurd z (by omega)) (fun _ => s_playTurn (w := 1) (by decide) (by omega) hs3 hc3 (posH_ok h24 hP.2.1 k) (fun u hu => hO.1 k u 0 (by omega) (by omega) (by decide)) (fun u hu => hO.1 k u 1 (by omega) (by omega) (by decide)) (fun mm g4 k4 hc4 _ => hK3 _ ?_))
    have k4 : kp [18, 19, 20] [] g3 g4 := k4
    exact ⟨nI_up k, kp_tr k3 (kp_up k4 (by simp <;> omega) (by simp)), CUs_kp hs3 k4 (by simp) (by simp) (by simp) (by simp), hc4⟩
  · rintro K3 ⟨y1, g3⟩ ⟨e1, k3, hs3, hc3⟩
    dsimp only at e1 k3 hs3 hc3
    subst e1
    show J_X6_unitsAreWhereReplayed_33 post K3 (nI t) g3
    have e1 : g3.2 1 = nI t := (k3.2 1 (by simp)).trans a5
    have e3 : g3.2 3 = nI n := (k3.2 3 (by simp)).trans a1.1
    have hc0 : CUc 0 n (posH n ow kk sd s0 D t) g3 := CUc_kp a3 k3 (by simp)
    unfold J_X6_unitsAreWhereReplayed_33
    rw [e1]
    refine pk_le t t (fun _ => ?_) (fun z => absurd z (by omega))
    refine lp_for n (fun k y => y = (nI k, g3)) ?_ ?_ rfl
    · rintro K6 k _ hk rfl hK6
      show J_X6_unitsAreWhereReplayed_62 post K6 (nI k) g3
      unfold J_X6_unitsAreWhereReplayed_62
      rw [e3]
      refine pk_le n k (fun z => absurd z (by omega)) (fun _ => s_place (w := 1) hs3.1 h24 hk (s_place (w := 0) e3 h24 hk ?_))
      refine wp_t ((hc3 k hk).trans (hc0 k hk).symm) (hK6 _ ?_)
      rw [nI_up]
    · rintro K6 _ rfl
      show J_X6_unitsAreWhereReplayed_62 post K6 (nI n) g3
      unfold J_X6_unitsAreWhereReplayed_62
      rw [e3]
      exact pk_le n n (fun _ => h g3 k3) (fun z => absurd z (by omega))
  · exact hc2
theorem s_savesTaken {post : Int32 → St → Prop} (hS : CSv F bk al en g) (hF : Fok F bk) (h : post 1 g) : V_X6_savesAreAsTaken g post := by
  unfold V_X6_savesAreAsTaken
  refine lp_for 4 (fun k y => y = (nI k, g)) ?_ ?_ rfl
  · rintro K2 p _ hp rfl hK2
    show J_X6_savesAreAsTaken_2 post K2 (nI p) g
    unfold J_X6_savesAreAsTaken_2
    rw [nI_clamp (n := p) (by omega)]
    refine pk_le 4 p (fun z => absurd z (by omega)) (fun _ => ⟨vp_in_nI hp (by omega), s_isAsTaken (hS p hp).1 hF hp (wp_f2 (show ¬ (1 : Int32) = 0 by decide) (hK2 _ ?_))⟩)
    rw [nI_up]
  · rintro K2 _ rfl
    show J_X6_savesAreAsTaken_2 post K2 (nI 4) g
    unfold J_X6_savesAreAsTaken_2
    exact pk_le 4 4 (fun _ => h) (fun z => absurd z (by omega))
theorem s_noOwn {post : Int32 → St → Prop} (hs : CUs 0 sd n ow kk g) (hI : CXI J g) (hJ : ∀ p : Nat, p < 4 → Iok n ow t p (J p)) (h : post 1 g) : V_X6_noIndexHasOwnUnits g post := by
  have h24 := hs.2.1
  unfold V_X6_noIndexHasOwnUnits
  refine lp_for 4 (fun k y => y = (nI k, g)) ?_ ?_ rfl
  · rintro K2 p _ hp rfl hK2
    show J_X6_noIndexHasOwnUnits_2 post K2 (nI p) g
    have hbd := (hJ p hp).bd
    have hz := hbd.1
    have hIp := hI p hp
    unfold J_X6_noIndexHasOwnUnits_2
    rw [nI_clamp (n := p) (by omega)]
    refine pk_le 4 p (fun z => absurd z (by omega)) (fun _ => ⟨vp_in_nI hp (by omega), ?_⟩)
    refine lp_for (J p).1 (fun k y => y = (nI p, p, nI k, g)) ?_ ?_ rfl
    · rintro K3 k _ hk rfl hK3
      show J_X6_noIndexHasOwnUnits_16 post K2 K3 (nI p) p (nI k) g
      obtain ⟨b1, b2, b3, b4⟩ := (hJ p hp).2.1 k hk
      have hu4 := (hs.2.2.2 _ b3).2.1
      unfold J_X6_noIndexHasOwnUnits_16 V_X6_unitOf
      rw [hIp.1]
      refine pk_le (J p).1 k (fun z => absurd z (by omega)) (fun _ => s_ixAt hIp hbd hk ?_)
      rw [i_unit b1]
      refine s_owner hs.1 h24 b3 ?_
      have eo : g.1 (5 + 10 * 0) ((J p).2 k % 1000) = nI (ow ((J p).2 k % 1000)) := (hs.2.2.2 _ b3).1
      rw [eo]
      refine wp_f2 (fun z => b4 ((nI_eq (by omega) (by omega)).mp z)) (hK3 _ ?_)
      rw [nI_up]
    · rintro K3 _ rfl
      show J_X6_noIndexHasOwnUnits_16 post K2 K3 (nI p) p (nI (J p).1) g
      unfold J_X6_noIndexHasOwnUnits_16
      rw [hIp.1]
      refine pk_le (J p).1 (J p).1 (fun _ => hK2 _ ?_) (fun z => absurd z (by omega))
      rw [nI_up]
  · rintro K2 _ rfl
    show J_X6_noIndexHasOwnUnits_2 post K2 (nI 4) g
    unfold J_X6_noIndexHasOwnUnits_2
    exact pk_le 4 4 (fun _ => h) (fun z => absurd z (by omega))
theorem case25_ok (hR : Rel g mu) (hK : ∀ g' f' fd' mu', Rel g' mu' → K g' f' fd' mu') : V_case25 x1 x2 x3 g f fd mu K := by
  obtain ⟨sd, n, t, sv, ow, kk, s0, D, m, J, tr, F, bk, al, en, hC, hM, hP⟩ := hR
  have hF := hP.Fok
  unfold V_case25 V_X6_isSound
  refine s_replayed hC hP (fun g' k1 => wp_f (show ¬ (1 : Int32) = 0 by decide) ?_)
  obtain ⟨a1, a2, a3, a4, a5, a6, a7, a8, a9, a10⟩ := hC
  have c1 : CUs 0 sd n ow kk g' := CUs_kp a1 k1 (by simp) (by simp) (by simp) (by simp)
  have c7 : CXI J g' := fun r hr => CI_kp (a7 r hr) k1 (by simp <;> omega) (by simp <;> omega)
  have c10 : CSv F bk al en g' := CSv_kp a10 k1 (by simp <;> omega) (by simp <;> omega)
  have rel : Rel g' mu := ⟨sd, n, t, sv, ow, kk, s0, D, m, J, tr, F, bk, al, en, ⟨c1, (k1.2 0 (by simp)).trans a2, CUc_kp a3 k1 (by simp), fun v hv => by rw [k1.1 7 (by simp)]; exact a4 v hv, (k1.2 1 (by simp)).trans a5, COall_kp a6 k1 (by simp) (by simp), c7, CT_kp a8 k1 (by simp), (k1.2 2 (by simp)).trans a9, c10⟩, hM, hP⟩
  refine s_savesTaken c10 hF (wp_f (show ¬ (1 : Int32) = 0 by decide) (s_noOwn c1 c7 hP.2.2.2.2.1 (wp_f (show ¬ (1 : Int32) = 0 by decide) ?_)))
  unfold V_X7_isSound
  exact wp_t rfl (hK _ _ _ _ rel)
end SO
