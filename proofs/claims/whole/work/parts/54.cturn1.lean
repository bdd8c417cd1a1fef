/-! PART 54: the class's field in numbers: pairs -/
def CUs (w : Nat) (sd : Int32) (n : Nat) (ow kk : Nat → Nat) (g : St) : Prop := g.2 (3 + w) = nI n ∧ n ≤ 24 ∧ (∀ i : Nat, i < 64 → g.1 (3 + 10 * w) i = nI (gN sd i)) ∧ ∀ u, u < n → g.1 (5 + 10 * w) u = nI (ow u) ∧ ow u < 4 ∧ g.1 (6 + 10 * w) u = nI (kk u) ∧ kk u < 3
def CUc (w n : Nat) (c : Nat → Nat) (g : St) : Prop := ∀ u, u < n → g.1 (8 + 10 * w) u = iI 64 (c u)
def CUw (w n : Nat) (wt : Nat → Nat) (g : St) : Prop := ∀ u, u < n → g.1 (9 + 10 * w) u = iI 64 (wt u)
theorem livN_upd {n : Nat} {c : Nat → Nat} {u : Nat} (hu : u < n) (h : c u < 64) : livN n (updN c u 64) + 1 = livN n c := by
  unfold livN
  have e : (fun v => decide (updN c u 64 v < 64)) = fun k => if k = u then false else decide (c k < 64) := by
    funext v
    by_cases e : v = u
    · subst e; simp [updN]
    · simp [updN, e]
  rw [e]
  have e2 := fb_ct_upd (fun k => decide (c k < 64)) false hu
  have e3 : decide (c u < 64) = true := decide_eq_true h
  simp only [e3, if_true] at e2
  simpa using e2
theorem livN_cong {n : Nat} {c c' : Nat → Nat} (h : ∀ u, u < n → c u = c' u) : livN n c = livN n c' := fb_ct_cong (fun u hu => by rw [h u hu])
theorem ptn_none {n : Nat} {ow c wt : Nat → Nat} {u : Nat} (h : ∀ v, v < n → ¬ fcs ow c wt u v) : ptn n ow c wt u = n := fN_none (fun v hv => decide_eq_false (h v hv))
section CF
variable {w n : Nat} {sd : Int32} {ow kk c wt c' wt' : Nat → Nat} {g g' : St}
theorem CUs_kp {ks ss : List Nat} (h : CUs w sd n ow kk g) (hk : kp ks ss g g') (h1 : 3 + w ∉ ss) (h2 : 3 + 10 * w ∉ ks) (h3 : 5 + 10 * w ∉ ks) (h4 : 6 + 10 * w ∉ ks) : CUs w sd n ow kk g' := by
  unfold CUs
  rw [hk.2 _ h1, hk.1 _ h2, hk.1 _ h3, hk.1 _ h4]
  exact h
theorem CUs_89 (h : CUs w sd n ow kk g) (hk : kp [8 + 10 * w, 9 + 10 * w, 10 + 10 * w] [] g g') : CUs w sd n ow kk g' :=
  CUs_kp h hk (by simp) (by simp) (by simp <;> omega) (by simp <;> omega)
theorem CUc_cong (h : CUc w n c g) (e : ∀ u, u < n → c u = c' u) : CUc w n c' g := fun u hu => by rw [← e u hu]; exact h u hu
theorem CUw_cong (h : CUw w n wt g) (e : ∀ u, u < n → wt u = wt' u) : CUw w n wt' g := fun u hu => by rw [← e u hu]; exact h u hu
theorem CUc_9 {f : Nat → Int32} {k : Nat} (hk : 8 + 10 * w ≠ k) (h : CUc w n c g) : CUc w n c (sA g k f) := fun u hu => by rw [sA_ne _ _ hk]; exact h u hu
theorem CUw_8 {f : Nat → Int32} {k : Nat} (hk : 9 + 10 * w ≠ k) (h : CUw w n wt g) : CUw w n wt (sA g k f) := fun u hu => by rw [sA_ne _ _ hk]; exact h u hu
theorem CUc_up {v x : Nat} (h : CUc w n c g) : CUc w n (updN c v x) (sA g (8 + 10 * w) (upd (g.1 (8 + 10 * w)) v (iI 64 x))) := fun u hu => by
  rw [sA_eq]
  unfold upd updN
  by_cases e : u = v
  · rw [if_pos e, if_pos e]
  · rw [if_neg e, if_neg e]; exact h u hu
theorem CUw_up {v x : Nat} (h : CUw w n wt g) : CUw w n (updN wt v x) (sA g (9 + 10 * w) (upd (g.1 (9 + 10 * w)) v (iI 64 x))) := fun u hu => by
  rw [sA_eq]
  unfold upd updN
  by_cases e : u = v
  · rw [if_pos e, if_pos e]
  · rw [if_neg e, if_neg e]; exact h u hu
theorem s_facing {u : Nat} {post : Int32 → St → Prop} (hs : CUs w sd n ow kk g) (hc : CUc w n c g) (hw : CUw w n wt g) (hS : SI n c wt) (hu : u < n) (h : post (iI n (ptn n ow c wt u)) g) : V_X1_facing w (nI u) g post := by
  obtain ⟨hn, h24, hG, hU⟩ := hs
  obtain ⟨a1, a2, a3⟩ := hS.1 u hu
  unfold V_X1_facing
  refine s_isMover hn h24 hu ?_
  rw [hw u hu, hc u hu]
  by_cases hm : wt u = c u
  · rw [if_pos ((iI_inj (by decide) a2 a1).mpr hm)]
    rw [ptn_none (fun v _ hf => hf.2.2.1 (hm.symm.trans hf.2.2.2.1)), iI_out (Nat.le_refl _)] at h
    exact wp_t2 rfl h
  · rw [if_neg (fun e => hm ((iI_inj (by decide) a2 a1).mp e))]
    have hl : wt u < 64 := by
      have : wt u ≠ 64 := fun e => hm (e.trans (a3.mpr e).symm)
      omega
    refine wp_f2 (by decide) ⟨vp_in_nI (by omega) (by decide), ?_⟩
    rw [nI_clamp (by omega), hw u hu]
    refine s_on hn h24 (fun e => absurd ((iI_m1 (by decide)).mp e) (by omega)) ?_
    rw [fN_cong (q := fun v => decide (c v = wt u)) (fun v hv => by
      rw [hc v hv]
      exact decide_eq_decide.mpr (iI_inj (by decide) (hS.1 v hv).1 a2))]
    by_cases hv : fN (fun v => decide (c v = wt u)) n < n
    · have ev : c (fN (fun v => decide (c v = wt u)) n) = wt u := of_decide_eq_true (fN_lt hv).1
      generalize fN (fun v => decide (c v = wt u)) n = v at hv ev
      rw [iI_in hv]
      refine wp_f (nI_m1 (by omega)) ⟨vp_in_nI (by omega) (by decide), s_place hn h24 hu ?_⟩
      rw [nI_clamp (by omega), hw v hv, hc u hu]
      by_cases hb : wt v = c u
      · refine wp_t (by rw [hb]) (s_owner hn h24 hv (s_owner hn h24 hu ?_))
        rw [(hU v hv).1, (hU u hu).1]
        by_cases ho : ow v = ow u
        · rw [ptn_none (fun v' hv' hf => by
            have : v' = v := hS.2 v' v hv' hv hf.2.1 (hf.2.2.2.1.symm.trans ev.symm)
            subst this
            exact hf.2.2.2.2.2 ho.symm), iI_out (Nat.le_refl _)] at h
          exact wp_t2 (by rw [ho]) h
        · have hf : fcs ow c wt u v := ⟨by
            have : c u ≠ 64 := fun e => by have := a3.mp e; omega
            omega, by omega, fun e => hm (ev.symm.trans e.symm), ev.symm, hb, fun e => ho e.symm⟩
          rw [ptn_eq hS hv hf, iI_in hv] at h
          exact wp_f2 (fun e => ho ((nI_eq (by have := (hU v hv).2.1; omega) (by have := (hU u hu).2.1; omega)).mp e)) h
      · rw [ptn_none (fun v' hv' hf => by
          have : v' = v := hS.2 v' v hv' hv hf.2.1 (hf.2.2.2.1.symm.trans ev.symm)
          subst this
          exact hb hf.2.2.2.2.1), iI_out (Nat.le_refl _)] at h
        exact wp_f (fun e => hb ((iI_inj (by decide) (hS.1 v hv).2.1 a1).mp e)) h
    · rw [iI_out (by omega)]
      rw [ptn_none (fun v' hv' hf => (of_decide_eq_false (fN_no hv hv')) hf.2.2.2.1.symm), iI_out (Nat.le_refl _)] at h
      exact wp_t rfl h
theorem s_lose {u : Nat} {post : St → Prop} (hn : g.2 (3 + w) = nI n) (h24 : n ≤ 24) (hu : u < n) (hc : CUc w n c g) (hw : CUw w n wt g) (h : ∀ g', kp [8 + 10 * w, 9 + 10 * w, 10 + 10 * w] [] g g' → CUc w n (updN c u 64) g' → CUw w n (updN wt u 64) g' → post g') : V_X1_lose w (nI u) g post := by
  unfold V_X1_lose
  refine s_move hn h24 hu ⟨vp_in_nI (by omega) (by decide), ?_⟩
  rw [nI_clamp (by omega)]
  refine h _ (kp_sA (kp_sA kp_rf (by simp)) (by simp)) ?_ ?_
  · exact CUc_9 (by omega) (by have := CUc_up (v := u) (x := 64) hc; exact this)
  · have h1 : CUw w n wt (sA g (8 + 10 * w) (upd (g.1 (8 + 10 * w)) u (-1))) := CUw_8 (by omega) hw
    exact CUw_up (v := u) (x := 64) h1
theorem s_meet {u v : Nat} {post : Int32 → St → Prop} (hs : CUs w sd n ow kk g) (hc : CUc w n c g) (hw : CUw w n wt g) (hu : u < n) (hv : v < n)
    (h : ∀ g', kp [8 + 10 * w, 9 + 10 * w, 10 + 10 * w] [] g g' → CUc w n (if pwN (kk u) = pwN (kk v) then c else updN c (if pwN (kk u) < pwN (kk v) then u else v) 64) g' → CUw w n (if pwN (kk u) = pwN (kk v) then updN (updN wt u (c u)) v (c v) else updN wt (if pwN (kk u) < pwN (kk v) then u else v) 64) g' → post (nI (if pwN (kk u) = pwN (kk v) then 0 else 1)) g') : V_X1_meet w (nI u) (nI v) g post := by
  obtain ⟨hn, h24, hG, hU⟩ := hs
  obtain ⟨-, -, k1, k2⟩ := hU u hu
  obtain ⟨-, -, k3, k4⟩ := hU v hv
  unfold V_X1_meet
  refine s_power hn h24 hu k1 k2 (s_power hn h24 hv k3 k4 ?_)
  rw [kPowers_eq k2, kPowers_eq k4]
  have p1 := pwN_le (kk u)
  have p2 := pwN_le (kk v)
  have t := pk_sub_toInt (a := pwN (kk u)) (b := pwN (kk v)) (by omega) (by omega)
  have t0 : (0 : Int32).toInt = 0 := by decide
  by_cases e : pwN (kk u) = pwN (kk v)
  · rw [if_pos e, if_pos e, if_pos e] at h
    refine wp_t2 (by rw [e]; exact Int32.sub_self _) ?_
    refine s_place hn h24 hu ⟨vp_in_nI (by omega) (by decide), ?_⟩
    refine s_place (by rw [sA_2]; exact hn) h24 hv ⟨vp_in_nI (by omega) (by decide), ?_⟩
    rw [nI_clamp (by omega), nI_clamp (by omega), sA_ne (k := 8 + 10 * w) (j := 9 + 10 * w) _ _ (by omega), hc u hu, hc v hv]
    refine h _ (kp_sA (kp_sA kp_rf (by simp)) (by simp)) (CUc_9 (by omega) (CUc_9 (by omega) hc)) ?_
    exact CUw_up (CUw_up hw)
  · rw [if_neg e, if_neg e, if_neg e] at h
    refine wp_f2 (fun z => e ?_) ?_
    · have z2 := congrArg Int32.toInt z
      rw [t, t0] at z2
      omega
    by_cases l : pwN (kk u) < pwN (kk v)
    · rw [if_pos l] at h
      refine wp_f (fun z => ?_) ?_
      · rw [Int32.le_iff_toInt_le, t, t0] at z; omega
      · unfold J_X1_meet_62
        exact s_lose hn h24 hu hc hw (fun g' a b d => h g' a b d)
    · rw [if_neg l] at h
      refine wp_t ?_ ?_
      · rw [Int32.le_iff_toInt_le, t, t0]; omega
      · unfold J_X1_meet_62
        exact s_lose hn h24 hv hc hw (fun g' a b d => h g' a b d)
def minK (k : Nat) : Nat → Nat → Bool := fun u v => decide (min u v < k)
theorem s_meetPairs {post : Int32 → St → Prop} (hs : CUs w sd n ow kk g) (hc : CUc w n c g) (hw : CUw w n wt g) (hS : SI n c wt)
    (h : ∀ m g', kp [8 + 10 * w, 9 + 10 * w, 10 + 10 * w] [] g g' → CUc w n (pC n ow kk c wt allK) g' → CUw w n (pW n ow kk c wt allK) g' → m + livN n (pC n ow kk c wt allK) = livN n c → post (nI m) g') : V_X1_meetPairs w g post := by
  have h24 := hs.2.1
  unfold V_X1_meetPairs
  refine lp_for n (fun k z => ∃ m, z.1 = nI m ∧ z.2.1 = nI k ∧ kp [8 + 10 * w, 9 + 10 * w, 10 + 10 * w] [] g z.2.2 ∧ CUc w n (pC n ow kk c wt (minK k)) z.2.2 ∧ CUw w n (pW n ow kk c wt (minK k)) z.2.2 ∧ m + livN n (pC n ow kk c wt (minK k)) = livN n c) ?_ ?_ ?_
  · rintro K k ⟨z1, z2, g1⟩ hk ⟨m, e1, e2, hkp, hc1, hw1, hm⟩ hK
    dsimp only at e1 e2 hkp hc1 hw1
    subst e1 e2
    show J_X1_meetPairs_4 w post K (nI m) (nI k) g1
    have hs1 := CUs_89 hs hkp
    have hS1 : SI n (pC n ow kk c wt (minK k)) (pW n ow kk c wt (minK k)) := SI_pair hS
    unfold J_X1_meetPairs_4 J_X1_meetPairs_35
    rw [hs1.1]
    refine pk_le n k (fun z => absurd z (by omega)) (fun _ => ?_)
    refine s_facing hs1 hc1 hw1 hS1 hk ?_
    have hsy : ∀ a b, minK k a b = minK k b a := fun a b => by unfold minK; rw [Nat.min_comm]
    by_cases hp : ptn n ow (pC n ow kk c wt (minK k)) (pW n ow kk c wt (minK k)) k < n
    · have hf := ptn_lt hp
      generalize ptn n ow (pC n ow kk c wt (minK k)) (pW n ow kk c wt (minK k)) k = v at hp hf
      have hf0 := (fcs_pair hS hk hp (hsy k v)).mp hf
      have hkv : k < v := by
        have h1 := of_decide_eq_false hf0.2
        have h2 : k ≠ v := fun e => hf0.1.2.2.1 (by rw [e])
        omega
      rw [iI_in hp]
      refine wp_f (nI_m1 (by omega)) (s_meet hs1 hc1 hw1 hk hp (fun g2 q1 q2 q3 => hK _ ?_))
      have hmore : ∀ u, u < n → _ := fun u hu => pC_more (ow := ow) (kk := kk) (K := minK k) (K' := minK (k + 1)) hS hk hp hf0.1 hf0.2 (by rw [← hsy]; exact hf0.2) (fun a b ha hb hab => by
        have o1 := ptn_eq hS hp hf0.1
        by_cases ea : a = k
        · subst ea
          have : b = v := fcs_one hS hb hp hab hf0.1
          subst this
          simp [minK]; omega
        · by_cases eb : b = k
          · subst eb
            have : a = v := fcs_one hS ha hp (fcs_sym hab) hf0.1
            subst this
            simp [minK]; omega
          · have : (min a b < k + 1) = (min a b < k) := propext ⟨fun z => by omega, fun z => by omega⟩
            simp [minK, ea, eb, this]) hu
      have c2 : CUc w n (pC n ow kk c wt (minK (k + 1))) g2 := CUc_cong q2 (fun u hu => by
        rw [(hmore u hu).1]
        by_cases e : pwN (kk k) = pwN (kk v)
        · rw [if_pos e, if_pos e]
        · rw [if_neg e, if_neg e]; rfl)
      have w2 : CUw w n (pW n ow kk c wt (minK (k + 1))) g2 := CUw_cong q3 (fun u hu => by
        rw [(hmore u hu).2]
        by_cases e : pwN (kk k) = pwN (kk v)
        · rw [if_pos e, if_pos e]
          unfold updN
          by_cases e1 : u = v
          · subst e1; simp
          · by_cases e2 : u = k
            · subst e2; simp [e1]
            · simp [e1, e2]
        · rw [if_neg e, if_neg e]; rfl)
      have l2 : livN n (pC n ow kk c wt (minK (k + 1))) + (if pwN (kk k) = pwN (kk v) then 0 else 1) = livN n (pC n ow kk c wt (minK k)) := by
        by_cases e : pwN (kk k) = pwN (kk v)
        · rw [if_pos e]
          exact livN_cong (fun u hu => by rw [(hmore u hu).1, if_pos e])
        · rw [if_neg e]
          rw [livN_cong (c' := updN (pC n ow kk c wt (minK k)) (if pwN (kk k) < pwN (kk v) then k else v) 64) (fun u hu => by rw [(hmore u hu).1, if_neg e]; rfl)]
          refine livN_upd (by split <;> assumption) ?_
          split
          · exact hf.1
          · exact hf.2.1
      refine ⟨m + (if pwN (kk k) = pwN (kk v) then 0 else 1), ?_, nI_up k, kp_tr hkp q1, c2, w2, by omega⟩
      exact nI_add _ _
    · rw [iI_out (by omega)]
      refine wp_t rfl (hK _ ⟨m, rfl, nI_up k, hkp, ?_⟩)
      have hno : ∀ v, v < n → fcs ow c wt k v → v < k := fun v hv hf => by
        by_cases hl : v < k
        · exact hl
        · exfalso
          have h1 : fcs ow (pC n ow kk c wt (minK k)) (pW n ow kk c wt (minK k)) k v := (fcs_pair hS hk hv (hsy k v)).mpr ⟨hf, decide_eq_false (by omega)⟩
          rw [ptn_eq hS1 hv h1] at hp
          exact hp hv
      have hsame := fun u (hu : u < n) => pC_same (n := n) (ow := ow) (kk := kk) (c := c) (wt := wt) (K := minK k) (K' := minK (k + 1)) (fun a b ha hb hab => by
        unfold minK
        apply decide_eq_decide.mpr
        constructor
        · intro z; omega
        · intro z
          by_cases ea : a = k
          · subst ea; have := hno b hb hab; omega
          · by_cases eb : b = k
            · subst eb; have := hno a ha (fcs_sym hab); omega
            · omega) hu
      exact ⟨CUc_cong hc1 (fun u hu => (hsame u hu).1), CUw_cong hw1 (fun u hu => (hsame u hu).2), by rw [← livN_cong (fun u hu => (hsame u hu).1)]; exact hm⟩
  · rintro K ⟨z1, z2, g1⟩ ⟨m, e1, e2, hkp, hc1, hw1, hm⟩
    dsimp only at e1 e2 hkp hc1 hw1
    subst e1 e2
    show J_X1_meetPairs_4 w post K (nI m) (nI n) g1
    have hs1 := CUs_89 hs hkp
    unfold J_X1_meetPairs_4
    rw [hs1.1]
    have hsame := fun u (hu : u < n) => pC_same (n := n) (ow := ow) (kk := kk) (c := c) (wt := wt) (K := minK n) (K' := allK) (fun a b ha hb hab => by
      unfold minK allK
      exact decide_eq_true (by omega)) hu
    exact pk_le n n (fun _ => h m g1 hkp (CUc_cong hc1 (fun u hu => (hsame u hu).1)) (CUw_cong hw1 (fun u hu => (hsame u hu).2)) (by rw [← livN_cong (fun u hu => (hsame u hu).1)]; exact hm)) (fun z => absurd z (by omega))
  · refine ⟨0, rfl, rfl, kp_rf, ?_, ?_, ?_⟩
    · exact CUc_cong hc (fun u _ => (if_neg (fun z => by have := z.2.1; simp [minK] at this)).symm)
    · exact CUw_cong hw (fun u _ => by
        unfold pW
        rw [if_neg (fun z => by have := z.2.1; simp [minK] at this), if_neg (fun z => by have := z.2.1; simp [minK] at this)])
    · rw [Nat.zero_add]
      exact livN_cong (fun u _ => if_neg (fun z => by have := z.2.1; simp [minK] at this))
end CF
