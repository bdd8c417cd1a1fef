/-! PART 78: shares, means, soundness -/
theorem vf_s {α : Type} {f : Nat → α} {k : Nat} {x : α} : vf_upd f k x k = x := if_pos rfl
section C7
variable {x1 x2 x3 : Int32} {g mu : St} {f : Nat → Int64} {fd : Nat → UInt64} {K : St → (Nat → Int64) → (Nat → UInt64) → St → Prop}
theorem livN_le (n : Nat) (c : Nat → Nat) : livN n c ≤ n := fb_ct_le _ _
theorem case23_ok (hR : Rel g mu) (hK : ∀ g' f' fd' mu', Rel g' mu' → K g' f' fd' mu') : V_case23 x1 x2 x3 g f fd mu K := by
  obtain ⟨sd, n, t, sv, ow, kk, s0, D, m, J, tr, F, bk, al, en, hC, hM, hP⟩ := hR
  have h24 := hC.1.2.1
  have hM0 := RM_0 (v := 0) hM
  have e3 : g.2 3 = nI n := hC.1.1
  unfold V_case23 V_L_livingShare V_X6_livingShare V_X7_livingShare J_X7_livingShare_13 J_X7_livingShare_35
  rw [e3, hM.1.2.1]
  by_cases hn : n = 0
  · subst hn
    refine wp_t2 rfl ⟨rfl, wp_t (by decide) (r_no0 (wp_f (by decide) ?_))⟩
    unfold V_X7_thrown
    exact wp_t (sS_eq _ _ _) (wp_f2 (by decide) (hK _ _ _ _ (Rel_0 hC hM hP)))
  · have hne := nI_ne0 (n := n) (by omega) (by omega)
    refine wp_f2 hne ?_
    refine lp_for n (fun k y => y = (nI n, nI (livN k (posH n ow kk sd s0 D t)), nI k, g)) ?_ ?_ rfl
    · rintro K2 k _ hk rfl hK2
      show J_X6_livingShare_30 _ _ K2 (nI n) (nI (livN k (posH n ow kk sd s0 D t))) (nI k) g
      unfold J_X6_livingShare_30 J_X6_livingShare_52 V_X5_lives
      have es : livN (k + 1) (posH n ow kk sd s0 D t) = livN k (posH n ow kk sd s0 D t) + (if decide (posH n ow kk sd s0 D t k < 64) = true then 1 else 0) := rfl
      refine pk_le n k (fun z => absurd z (by omega)) (fun _ => s_place hC.1.1 h24 hk ?_)
      have ec : g.1 (8 + 10 * 0) k = iI 64 (posH n ow kk sd s0 D t k) := hC.2.2.1 k hk
      rw [ec]
      by_cases hl : posH n ow kk sd s0 D t k < 64
      · refine wp_f (by rw [iI_in hl]; exact nI_m1 (by omega)) (wp_f (by decide) (hK2 _ ?_))
        rw [es, if_pos (decide_eq_true hl), nI_up, nI_up]
      · refine wp_t (iI_out (by omega)) (wp_t rfl (hK2 _ ?_))
        rw [es, if_neg (by simpa using hl), nI_up]
        rfl
    · rintro K2 _ rfl
      show J_X6_livingShare_30 _ _ K2 (nI n) (nI (livN n (posH n ow kk sd s0 D t))) (nI n) g
      unfold J_X6_livingShare_30
      have hle := livN_le n (posH n ow kk sd s0 D t)
      obtain ⟨f1, f2, f3⟩ := fp_share (livN n (posH n ow kk sd s0 D t)) (by omega) n (by omega) (by omega)
      refine pk_le n n (fun _ => ⟨f1, f2, wp_f (nI_nle (by omega) (by omega)) (r_no1 (wp_t rfl (r_living hM0.1 hM0.2.1 ?_)))⟩) (fun z => absurd z (by omega))
      have e2 : (sS mu 0 0).2 2 = nI n := hM0.1.2.1
      rw [e2]
      generalize FP.fdiv (FP.i2f (nI (livN n (posH n ow kk sd s0 D t)))) (FP.i2f (nI n)) = r at f1 f2 f3
      refine ⟨f1, ?_⟩
      unfold V_X7_thrown
      refine wp_t (sS_eq _ _ _) ⟨fun z => absurd rfl z, fun _ => ⟨f2, wp_t ?_ (hK _ _ _ _ (Rel_0 hC hM hP))⟩⟩
      show Op.cmpValue (FP.dcmp (vf_upd fd 0 (FP.f2d r) 0) (FP.f2d r)) .l = 0
      rw [vf_s]
      exact f3
/-- the ages of the first k sightings of an index -/
def agN (t : Nat) (X : Nat × (Nat → Nat)) (k : Nat) : Nat := fb_sm (fun i => t - X.2 i / 100000) k
theorem agN_le {t : Nat} {X : Nat × (Nat → Nat)} (ht : t ≤ 99) (k : Nat) : agN t X k ≤ k * 99 := fb_sm_bound (fun i _ => by omega)
theorem case24_ok (hR : Rel g mu) (hK : ∀ g' f' fd' mu', Rel g' mu' → K g' f' fd' mu') : V_case24 x1 x2 x3 g f fd mu K := by
  obtain ⟨sd, n, t, sv, ow, kk, s0, D, m, J, tr, F, bk, al, en, hC, hM, hP⟩ := hR
  have hM0 := RM_0 (v := 0) hM
  have ht := hP.1
  have hz : ∀ p, p < 4 → (J p).1 ≤ 60 := fun p hp => (hP.2.2.2.2.1 p hp).1
  have htn : ∀ p, p < 4 → ∀ k, k < (J p).1 → (J p).2 k / 100000 ≤ t := fun p hp k hk => ((hP.2.2.2.2.1 p hp).2.1 k hk).2.1
  obtain ⟨A, eA⟩ : ∃ A : Nat → Nat, A = fun p => agN t (J p) (J p).1 := ⟨_, rfl⟩
  have hA : ∀ p, p < 4 → A p ≤ 5940 := fun p hp => by
    rw [eA]
    have h1 := agN_le (X := J p) ht (J p).1
    have h2 := hz p hp
    show agN t (J p) (J p).1 ≤ 5940
    omega
  have hsA : ∀ p, p ≤ 4 → fb_sm A p ≤ p * 5940 := fun p hp => fb_sm_bound (fun i hi => hA i (by omega))
  have hsN : ∀ p, p ≤ 4 → fb_sm (fun p => (J p).1) p ≤ p * 60 := fun p hp => fb_sm_bound (fun i hi => hz i (by omega))
  unfold V_case24 V_L_meanAge V_X6_meanAge
  refine lp_for 4 (fun p y => y = (lN (fb_sm A p), nI (fb_sm (fun p => (J p).1) p), nI p, g)) ?_ ?_ rfl
  · rintro K2 p _ hp rfl hK2
    show J_X6_meanAge_7 _ _ K2 (lN (fb_sm A p)) (nI (fb_sm (fun p => (J p).1) p)) (nI p) g
    have hIp := hC.2.2.2.2.2.2.1 p hp
    have hbd := (hP.2.2.2.2.1 p hp).bd
    have hzp := hz p hp
    unfold J_X6_meanAge_7
    rw [nI_clamp (by omega)]
    refine pk_le 4 p (fun z => absurd z (by omega)) (fun _ => ⟨vp_in_nI hp (by omega), ?_⟩)
    refine lp_for (J p).1 (fun k y => y = (lN (fb_sm A p + agN t (J p) k), nI (fb_sm (fun p => (J p).1) p), nI p, p, nI k, g)) ?_ ?_ rfl
    · rintro K3 k _ hk rfl hK3
      show J_X6_meanAge_25 _ _ K2 K3 (lN (fb_sm A p + agN t (J p) k)) (nI (fb_sm (fun p => (J p).1) p)) (nI p) p (nI k) g
      unfold J_X6_meanAge_25 V_X6_turnOf
      rw [hIp.1, hC.2.2.2.2.1]
      refine pk_le (J p).1 k (fun z => absurd z (by omega)) (fun _ => s_ixAt hIp hbd hk (hK3 _ ?_))
      have hle := htn p hp k hk
      have ea : agN t (J p) (k + 1) = agN t (J p) k + (t - (J p).2 k / 100000) := rfl
      rw [i_turn (hbd.2 k hk), pk_sub hle, nI_l (by omega), lN_add, nI_up, ea, ← Nat.add_assoc]
    · rintro K3 _ rfl
      show J_X6_meanAge_25 _ _ K2 K3 (lN (fb_sm A p + agN t (J p) (J p).1)) (nI (fb_sm (fun p => (J p).1) p)) (nI p) p (nI (J p).1) g
      unfold J_X6_meanAge_25
      rw [hIp.1]
      refine pk_le (J p).1 (J p).1 (fun _ => hK2 _ ?_) (fun z => absurd z (by omega))
      rw [nI_add, nI_up, fb_sm_succ, fb_sm_succ, eA]
  · rintro K2 _ rfl
    show J_X6_meanAge_7 _ _ K2 (lN (fb_sm A 4)) (nI (fb_sm (fun p => (J p).1) 4)) (nI 4) g
    have hS := hsA 4 (by omega)
    have hN := hsN 4 (by omega)
    -- the reference's sums
    have ref : ∀ {post : UInt64 → St → Prop}, (fb_sm (fun p => (J p).1) 4 = 0 → post FP.dconst0 (sS mu 0 1)) → (¬ fb_sm (fun p => (J p).1) 4 = 0 → vf_n64 (FP.ddiv (FP.i2d (nI (fb_sm A 4))) (FP.i2d (nI (fb_sm (fun p => (J p).1) 4)))) ∧ post (FP.ddiv (FP.i2d (nI (fb_sm A 4))) (FP.i2d (nI (fb_sm (fun p => (J p).1) 4)))) (sS mu 0 0)) → V_X7_meanAge mu post := fun {post} h0 h1 => by
      unfold V_X7_meanAge
      refine lp_for 4 (fun p y => y = (nI (fb_sm A p), nI (fb_sm (fun p => (J p).1) p), nI p, mu)) ?_ ?_ rfl
      · rintro K4 p _ hp rfl hK4
        show J_X7_meanAge_6 _ K4 (nI (fb_sm A p)) (nI (fb_sm (fun p => (J p).1) p)) (nI p) mu
        have hMp := hM.2.2.2.2.1 p hp
        have hbd := (hP.2.2.2.2.1 p hp).bd
        have hzp := hz p hp
        have ip : vp_in (nI p) 4 := vp_in_nI hp (by omega)
        unfold J_X7_meanAge_6
        refine pk_le 4 p (fun z => absurd z (by omega)) (fun _ => ?_)
        refine lp_for (J p).1 (fun k y => y = (nI (fb_sm A p + agN t (J p) k), nI (fb_sm (fun p => (J p).1) p + k), nI p, nI k, mu)) ?_ ?_ rfl
        · rintro K5 k _ hk rfl hK5
          show J_X7_meanAge_14 _ K4 K5 (nI (fb_sm A p + agN t (J p) k)) (nI (fb_sm (fun p => (J p).1) p + k)) (nI p) (nI k) mu
          unfold J_X7_meanAge_14 V_X7_turnOf
          rw [i_61, nI_clamp (n := p) (by omega), nI_clamp (n := 61 * p + k) (by omega), hMp.1, hMp.2 k hk, hM.2.2.1]
          refine ⟨ip, pk_le (J p).1 k (fun z => absurd z (by omega)) (fun _ => ⟨vp_in_nI (by omega) (by omega), hK5 _ ?_⟩)⟩
          have hle := htn p hp k hk
          have ea : agN t (J p) (k + 1) = agN t (J p) k + (t - (J p).2 k / 100000) := rfl
          rw [i_turn (hbd.2 k hk), pk_sub hle, nI_add, nI_up, nI_up, ea, ← Nat.add_assoc, ← Nat.add_assoc]
        · rintro K5 _ rfl
          show J_X7_meanAge_14 _ K4 K5 (nI (fb_sm A p + agN t (J p) (J p).1)) (nI (fb_sm (fun p => (J p).1) p + (J p).1)) (nI p) (nI (J p).1) mu
          unfold J_X7_meanAge_14
          rw [nI_clamp (n := p) (by omega), hMp.1]
          refine ⟨ip, pk_le (J p).1 (J p).1 (fun _ => hK4 _ ?_) (fun z => absurd z (by omega))⟩
          rw [nI_up, fb_sm_succ, fb_sm_succ, eA]
      · rintro K4 _ rfl
        show J_X7_meanAge_6 _ K4 (nI (fb_sm A 4)) (nI (fb_sm (fun p => (J p).1) 4)) (nI 4) mu
        unfold J_X7_meanAge_6 J_X7_meanAge_73 J_X7_meanAge_89
        refine pk_le 4 4 (fun _ => pk_le (fb_sm (fun p => (J p).1) 4) 0 (fun z => r_no0 (wp_f (by decide) (h0 (by omega)))) (fun z => r_no1 (wp_t rfl (h1 (by omega))))) (fun z => absurd z (by omega))
    unfold J_X6_meanAge_7
    refine pk_le 4 4 (fun _ => ?_) (fun z => absurd z (by omega))
    by_cases hN0 : fb_sm (fun p => (J p).1) 4 = 0
    · refine wp_t2 (by rw [hN0]; rfl) ⟨rfl, ref (fun _ => ?_) (fun z => absurd hN0 z)⟩
      unfold V_X7_thrown
      exact wp_t (sS_eq _ _ _) (wp_f2 (by decide) (hK _ _ _ _ (Rel_0 hC hM hP)))
    · obtain ⟨f1, f2⟩ := fp_quo (v := lN (fb_sm A 4)) (b := fb_sm (fun p => (J p).1) 4) (by omega) (by omega)
      have es := fp_same (fb_sm A 4) (by omega)
      rw [es] at ref
      generalize FP.ddiv (FP.l2d (lN (fb_sm A 4))) (FP.i2d (nI (fb_sm (fun p => (J p).1) 4))) = r at f1 f2 ref ⊢
      refine wp_f2 (nI_ne0 (by omega) (by omega)) ⟨f1, ref (fun z => absurd z hN0) (fun _ => ⟨f1, ?_⟩)⟩
      unfold V_X7_thrown
      refine wp_t (sS_eq _ _ _) ⟨fun z => absurd rfl z, fun _ => wp_t ?_ (hK _ _ _ _ (Rel_0 hC hM hP))⟩
      show Op.cmpValue (FP.dcmp (vf_upd fd 0 r 0) r) .l = 0
      rw [vf_s]
      exact f2
end C7
