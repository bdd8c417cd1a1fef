/-! PART 72: sightings, ages, blocks, numbers, sums -/
theorem bad_lt2 {n : Nat} {x : Int32} {A A' B V : Prop} (h : bad n x) (hv : V) (ha : A) (ha' : A') : (x < 0 → A) ∧ (¬ x < 0 → V ∧ ((x < nI n → B) ∧ (¬ x < nI n → A'))) := by
  have h2 := bad_lt (B := B) h ha ha'
  exact ⟨h2.1, fun z => ⟨hv, h2.2 z⟩⟩
theorem gd_lt2 {n j : Nat} {A A' B V : Prop} (hj : j < n) (hn : n < 2 ^ 31) (hv : V) (h : B) : (nI j < 0 → A) ∧ (¬ nI j < 0 → V ∧ ((nI j < nI n → B) ∧ (¬ nI j < nI n → A'))) := by
  have h2 := gd_lt (A := A) (A' := A') hj hn h
  exact ⟨h2.1, fun z => ⟨hv, h2.2 z⟩⟩
theorem bad_le2 {n : Nat} {x : Int32} {A A' B V : Prop} (h : bad n x) (hv : V) (ha : A) (ha' : A') : (x < 0 → A) ∧ (¬ x < 0 → V ∧ ((nI n ≤ x → A') ∧ (¬ nI n ≤ x → B))) := by
  have h2 := bad_le (B := B) h ha ha'
  exact ⟨h2.1, fun z => ⟨hv, h2.2 z⟩⟩
theorem gd_le2 {n j : Nat} {A A' B V : Prop} (hj : j < n) (hn : n < 2 ^ 31) (hv : V) (h : B) : (nI j < 0 → A) ∧ (¬ nI j < 0 → V ∧ ((nI n ≤ nI j → A') ∧ (¬ nI n ≤ nI j → B))) := by
  have h2 := gd_le (A := A) (A' := A') hj hn h
  exact ⟨h2.1, fun z => ⟨hv, h2.2 z⟩⟩
/-- one more than the last place with P, 0 if there is none -/
def lstK (P : Nat → Bool) : Nat → Nat
  | 0 => 0
  | z + 1 => if P z then z + 1 else lstK P z
theorem lstK_le (P : Nat → Bool) : ∀ z, lstK P z ≤ z := by
  intro z
  induction z with
  | zero => exact Nat.le_refl _
  | succ z ih =>
    unfold lstK
    split
    · exact Nat.le_refl _
    · omega
section LA
variable {ix z : Nat} {f : Nat → Nat} {g mu : St}
theorem s_latCell {c : Nat} {post : Int32 → St → Prop} (hI : CI ix z f g) (hb : Ibd z f) (hc : c < 64) (h0 : lstK (fun k => decide (f k / 1000 % 100 = c)) z = 0 → post (-1) g) (h1 : ∀ k, k < z → lstK (fun k => decide (f k / 1000 % 100 = c)) z = k + 1 → post (nI (f k)) g) : V_X2_latestOnCell ix (nI c) g post := by
  unfold V_X2_latestOnCell
  have hz := hb.1
  rw [hI.1]
  refine lp_for z (fun i y => y = (nI c, nI (z - i) - 1, g) ∧ lstK (fun k => decide (f k / 1000 % 100 = c)) z = lstK (fun k => decide (f k / 1000 % 100 = c)) (z - i)) ?_ ?_ ⟨rfl, rfl⟩
  · rintro K i _ hi ⟨rfl, hl⟩ hK
    show J_X2_latestOnCell_7 ix (nI c) post K (nI c) (nI (z - i) - 1) g
    have er : z - i = (z - (i + 1)) + 1 := by omega
    have hr : z - (i + 1) < z := by omega
    rw [er] at hl ⊢
    generalize z - (i + 1) = r at hl hr hK ⊢
    have hs : lstK (fun k => decide (f k / 1000 % 100 = c)) (r + 1) = if decide (f r / 1000 % 100 = c) = true then r + 1 else lstK (fun k => decide (f k / 1000 % 100 = c)) r := rfl
    have hf := hb.2 r hr
    have hm := Nat.mod_lt (f r / 1000) (show 0 < 100 by omega)
    unfold J_X2_latestOnCell_7 V_X6_placeOf
    rw [nI_pred r, nI_clamp (by omega), hI.2 r hr, i_place hf]
    have iv : vp_in (nI r) 61 := vp_in_nI (by omega) (by omega)
    refine wp_f (nI_pos (by omega)) ⟨iv, And.symm (pk_eq (f r / 1000 % 100) c (fun e => ⟨iv, h1 r hr ?_⟩) (fun e => hK _ ⟨?_, ?_⟩))⟩
    · rw [hl, hs, if_pos (decide_eq_true e)]
    · rw [show nI r + (-1) = nI r - 1 from (Int32.sub_eq_add_neg _ _).symm]
    · rw [hl, hs, if_neg (by simpa using e)]
  · rintro K _ ⟨rfl, hl⟩
    show J_X2_latestOnCell_7 ix (nI c) post K (nI c) (nI (z - z) - 1) g
    rw [Nat.sub_self] at hl ⊢
    unfold J_X2_latestOnCell_7
    exact wp_t (by decide) (h0 hl)
theorem s_latUnit {u : Nat} {post : Int32 → St → Prop} (hI : CI ix z f g) (hb : Ibd z f) (hu : u < 24) (h0 : lstK (fun k => decide (f k % 1000 = u)) z = 0 → post (-1) g) (h1 : ∀ k, k < z → lstK (fun k => decide (f k % 1000 = u)) z = k + 1 → post (nI (f k)) g) : V_X2_latestOfUnit ix (nI u) g post := by
  unfold V_X2_latestOfUnit
  have hz := hb.1
  rw [hI.1]
  refine lp_for z (fun i y => y = (nI u, nI (z - i) - 1, g) ∧ lstK (fun k => decide (f k % 1000 = u)) z = lstK (fun k => decide (f k % 1000 = u)) (z - i)) ?_ ?_ ⟨rfl, rfl⟩
  · rintro K i _ hi ⟨rfl, hl⟩ hK
    show J_X2_latestOfUnit_7 ix (nI u) post K (nI u) (nI (z - i) - 1) g
    have er : z - i = (z - (i + 1)) + 1 := by omega
    have hr : z - (i + 1) < z := by omega
    rw [er] at hl ⊢
    generalize z - (i + 1) = r at hl hr hK ⊢
    have hs : lstK (fun k => decide (f k % 1000 = u)) (r + 1) = if decide (f r % 1000 = u) = true then r + 1 else lstK (fun k => decide (f k % 1000 = u)) r := rfl
    have hf := hb.2 r hr
    have hm := Nat.mod_lt (f r) (show 0 < 1000 by omega)
    unfold J_X2_latestOfUnit_7 V_X6_unitOf
    rw [nI_pred r, nI_clamp (by omega), hI.2 r hr, i_unit hf]
    have iv : vp_in (nI r) 61 := vp_in_nI (by omega) (by omega)
    refine wp_f (nI_pos (by omega)) ⟨iv, And.symm (pk_eq (f r % 1000) u (fun e => ⟨iv, h1 r hr ?_⟩) (fun e => hK _ ⟨?_, ?_⟩))⟩
    · rw [hl, hs, if_pos (decide_eq_true e)]
    · rw [show nI r + (-1) = nI r - 1 from (Int32.sub_eq_add_neg _ _).symm]
    · rw [hl, hs, if_neg (by simpa using e)]
  · rintro K _ ⟨rfl, hl⟩
    show J_X2_latestOfUnit_7 ix (nI u) post K (nI u) (nI (z - z) - 1) g
    rw [Nat.sub_self] at hl ⊢
    unfold J_X2_latestOfUnit_7
    exact wp_t (by decide) (h0 hl)
end LA
section C2
variable {x1 x2 x3 : Int32} {g mu : St} {f : Nat → Int64} {fd : Nat → UInt64} {K : St → (Nat → Int64) → (Nat → UInt64) → St → Prop}
theorem case12_ok (hR : Rel g mu) (hK : ∀ g' f' fd' mu', Rel g' mu' → K g' f' fd' mu') : V_case12 x1 x2 x3 g f fd mu K := by
  obtain ⟨sd, n, t, sv, ow, kk, s0, D, m, J, tr, F, bk, al, en, hC, hM, hP⟩ := hR
  have hM0 := RM_0 (v := 0) hM
  unfold V_case12 V_L_sighting V_X6_sighting V_X7_sighting J_X7_sighting_28 J_X7_sighting_29 J_X7_sighting_55 J_X7_sighting_60 J_X6_sighting_21
  generalize (Int32.toUInt32 x3 % 65536).toInt32 = w
  rcases bad_or (n := 4) (by omega) x1 with hb | ⟨p, hp, rfl⟩
  · refine s_reqPx hb (Or.inl ⟨rfl, bad_le hb (r_no0 (wp_f2 (by decide) ?_)) (r_no0 (wp_f2 (by decide) ?_))⟩)
    · exact k_thr (P := fun mu7 => K _ _ fd mu7) (by decide) (sS_eq _ _ _) (hK _ _ _ _ (Rel_0 hC hM hP))
    · exact k_thr (P := fun mu7 => K _ _ fd mu7) (by decide) (sS_eq _ _ _) (hK _ _ _ _ (Rel_0 hC hM hP))
  · have hIp := hC.2.2.2.2.2.2.1 p hp
    have hMp := hM.2.2.2.2.1 p hp
    have hMp0 := hM0.2.2.2.2.1 p hp
    have hbd := (hP.2.2.2.2.1 p hp).bd
    have hz := hbd.1
    have ip : vp_in (nI p) 4 := vp_in_nI hp (by omega)
    refine s_reqP hp ?_
    rw [nI_clamp (n := p) (by omega), hIp.1]
    rcases bad_or (n := (J p).1) (by omega) x2 with hb | ⟨k, hk, rfl⟩
    · refine bad_lt2 hb ip (Or.inl ⟨rfl, ?_⟩) (Or.inl ⟨rfl, ?_⟩)
      all_goals
        rw [hMp.1]
        refine gd_le (n := 4) hp (by omega) (bad_le2 hb ip (r_no0 (wp_f2 (by decide) ?_)) (r_no0 (wp_f2 (by decide) ?_)))
        · exact k_thr (P := fun mu7 => K _ _ fd mu7) (by decide) (sS_eq _ _ _) (hK _ _ _ _ (Rel_0 hC hM hP))
        · exact k_thr (P := fun mu7 => K _ _ fd mu7) (by decide) (sS_eq _ _ _) (hK _ _ _ _ (Rel_0 hC hM hP))
    · refine gd_lt2 hk (by omega) ip ⟨ip, s_ixAt hIp hbd hk ?_⟩
      have hf := hbd.2 k hk
      unfold V_X6_placeOf V_X6_turnOf V_X6_unitOf V_X7_cellIn V_X7_turnOf V_X7_unitIn
      rw [i_place hf, i_turn hf, i_unit hf, hMp.1]
      have iv : vp_in (nI (61 * p + k)) 244 := vp_in_nI (by omega) (by omega)
      have ek : (sS (sS mu 0 0) 0 0).1 9 (61 * p + k) = nI ((J p).2 k) := hMp.2 k hk
      -- the reference's answer, for what is asked
      have tail : ∀ {P : St → Prop} {v : Int32}, P (sS mu 0 0) → V_X7_no 1 2 (sS mu 0 0) (fun r4 g3 => ((r4 = 0 → vp_in (nI (61 * p + k)) 244 ∧ P g3) ∧ (¬ r4 = 0 → False))) := fun {P v} h => r_no1 (wp_t rfl ⟨iv, by rw [sS_00]; exact h⟩)
      by_cases e99 : w = 99
      · subst e99
        refine wp_t rfl (gd_le (n := 4) hp (by omega) (gd_le2 hk (by omega) ip (r_no1 (wp_t2 rfl (wp_f (by decide) (wp_t rfl (r_no1 (wp_t rfl ?_))))))))
        rw [i_61, nI_clamp (by omega), ek, i_cell hf, sS_00]
        refine ⟨iv, wp_f2 (by decide) (wp_t2 rfl ?_)⟩
        exact k_val (f := f) (P := fun mu7 => K _ _ fd mu7) (sS_eq _ _ _) (hK _ _ _ _ (Rel_0 hC hM hP))
      · refine wp_f e99 ?_
        by_cases e116 : w = 116
        · subst e116
          refine wp_t rfl (gd_le (n := 4) hp (by omega) (gd_le2 hk (by omega) ip (r_no1 (wp_t2 rfl (wp_t rfl (r_no1 (wp_t rfl ?_)))))))
          rw [i_61, nI_clamp (by omega), ek, i_turn hf, sS_00]
          refine ⟨iv, wp_t2 rfl ?_⟩
          exact k_val (f := f) (P := fun mu7 => K _ _ fd mu7) (sS_eq _ _ _) (hK _ _ _ _ (Rel_0 hC hM hP))
        · refine wp_f e116 ?_
          by_cases e117 : w = 117
          · subst e117
            refine wp_t rfl (gd_le (n := 4) hp (by omega) (gd_le2 hk (by omega) ip (r_no1 (wp_t2 rfl (wp_f (by decide) (wp_f (by decide) (wp_t2 rfl (r_no1 (wp_t rfl ?_)))))))))
            rw [i_61, nI_clamp (by omega), ek, i_unit hf, sS_00]
            refine ⟨iv, wp_f2 (by decide) (wp_f2 (by decide) ?_)⟩
            exact k_val (f := f) (P := fun mu7 => K _ _ fd mu7) (sS_eq _ _ _) (hK _ _ _ _ (Rel_0 hC hM hP))
          · refine wp_f e117 (Or.inr ⟨rfl, gd_le (n := 4) hp (by omega) (gd_le2 hk (by omega) ip (r_no1 (wp_t2 rfl (wp_f e116 (wp_f e99 (wp_f2 e117 (r_no0 (wp_f (by decide) ?_))))))))⟩)
            rw [sS_00]
            exact k_thr (P := fun mu7 => K _ _ fd mu7) (by decide) (sS_eq _ _ _) (hK _ _ _ _ (Rel_0 hC hM hP))
theorem case13_ok (hR : Rel g mu) (hK : ∀ g' f' fd' mu', Rel g' mu' → K g' f' fd' mu') : V_case13 x1 x2 x3 g f fd mu K := by
  obtain ⟨sd, n, t, sv, ow, kk, s0, D, m, J, tr, F, bk, al, en, hC, hM, hP⟩ := hR
  have hM0 := RM_0 (v := 0) hM
  unfold V_case13 V_L_age V_X6_age V_X7_age J_X7_age_21 J_X7_age_22
  rcases bad_or (n := 4) (by omega) x1 with hb | ⟨p, hp, rfl⟩
  · refine s_reqPx hb (Or.inl ⟨rfl, bad_le hb (r_no0 (wp_f (by decide) ?_)) (r_no0 (wp_f (by decide) ?_))⟩)
    · exact k_thr (P := fun mu7 => K _ _ fd mu7) (by decide) (sS_eq _ _ _) (hK _ _ _ _ (Rel_0 hC hM hP))
    · exact k_thr (P := fun mu7 => K _ _ fd mu7) (by decide) (sS_eq _ _ _) (hK _ _ _ _ (Rel_0 hC hM hP))
  · have hIp := hC.2.2.2.2.2.2.1 p hp
    have hMp0 := hM0.2.2.2.2.1 p hp
    have hbd := (hP.2.2.2.2.1 p hp).bd
    have hz := hbd.1
    have ip : vp_in (nI p) 4 := vp_in_nI hp (by omega)
    refine s_reqP hp ?_
    rcases bad_or (n := 64) (by omega) x2 with hb | ⟨c, hc, rfl⟩
    · refine s_reqCx hb (Or.inl ⟨rfl, gd_le (n := 4) hp (by omega) (r_isCellx hb (wp_t rfl (r_no0 (wp_f (by decide) ?_))))⟩)
      exact k_thr (P := fun mu7 => K _ _ fd mu7) (by decide) (sS_eq _ _ _) (hK _ _ _ _ (Rel_0 hC hM hP))
    · refine s_reqC hc ⟨ip, ?_⟩
      rw [nI_clamp (n := p) (by omega)]
      -- the reference's search
      have ref : ∀ {post : Int32 → St → Prop}, (lstK (fun k => decide ((J p).2 k / 1000 % 100 = c)) (J p).1 = 0 → post 0 (sS mu 0 2)) → (∀ k, k < (J p).1 → lstK (fun k => decide ((J p).2 k / 1000 % 100 = c)) (J p).1 = k + 1 → post (nI t - nI ((J p).2 k / 100000)) (sS mu 0 0)) → lpP (fun K36 (z : Int32 × Int32 × Int32 × Int32 × St) => J_X7_age_36 (nI p) (nI c) post K36 z.1 z.2.1 z.2.2.1 z.2.2.2.1 z.2.2.2.2) (nI p, nI c, (-1), 0, sS mu 0 0) := fun {post} h0 h1 => by
        refine lp_for (J p).1 (fun k y => y = (nI p, nI c, (if lstK (fun k => decide ((J p).2 k / 1000 % 100 = c)) k = 0 then -1 else nI ((J p).2 (lstK (fun k => decide ((J p).2 k / 1000 % 100 = c)) k - 1) / 100000)), nI k, sS mu 0 0)) ?_ ?_ rfl
        · rintro K2 k _ hk rfl hK2
          show J_X7_age_36 (nI p) (nI c) post K2 (nI p) (nI c) _ (nI k) (sS mu 0 0)
          have hf := hbd.2 k hk
          have hm := Nat.mod_lt ((J p).2 k / 1000) (show 0 < 100 by omega)
          have hs : lstK (fun k => decide ((J p).2 k / 1000 % 100 = c)) (k + 1) = if decide ((J p).2 k / 1000 % 100 = c) = true then k + 1 else lstK (fun k => decide ((J p).2 k / 1000 % 100 = c)) k := rfl
          unfold J_X7_age_36 J_X7_age_82 V_X7_cellIn V_X7_turnOf
          rw [i_61, nI_clamp (n := p) (by omega), nI_clamp (n := 61 * p + k) (by omega), hMp0.1, hMp0.2 k hk, i_cell hf, i_turn hf]
          have iv : vp_in (nI (61 * p + k)) 244 := vp_in_nI (by omega) (by omega)
          refine ⟨ip, pk_le (J p).1 k (fun q => absurd q (by omega)) (fun _ => ⟨iv, And.symm (pk_eq ((J p).2 k / 1000 % 100) c (fun e => ⟨iv, hK2 _ ?_⟩) (fun e => hK2 _ ?_))⟩)⟩
          · rw [hs, if_pos (decide_eq_true e), if_neg (by omega), nI_up]
            rfl
          · have hs2 : lstK (fun k => decide ((J p).2 k / 1000 % 100 = c)) (k + 1) = lstK (fun k => decide ((J p).2 k / 1000 % 100 = c)) k := by rw [hs]; exact if_neg (by simpa using e)
            rw [hs2, nI_up]
        · rintro K2 _ rfl
          show J_X7_age_36 (nI p) (nI c) post K2 (nI p) (nI c) _ (nI (J p).1) (sS mu 0 0)
          unfold J_X7_age_36 J_X7_age_99
          rw [nI_clamp (n := p) (by omega), hMp0.1]
          refine ⟨ip, pk_le (J p).1 (J p).1 (fun _ => ?_) (fun q => absurd q (by omega))⟩
          have hl := lstK_le (fun k => decide ((J p).2 k / 1000 % 100 = c)) (J p).1
          by_cases e : lstK (fun k => decide ((J p).2 k / 1000 % 100 = c)) (J p).1 = 0
          · rw [if_pos e]
            refine wp_t rfl (r_no0 (wp_f (by decide) ?_))
            rw [sS_00]
            exact h0 e
          · rw [if_neg e]
            have hlt : lstK (fun k => decide ((J p).2 k / 1000 % 100 = c)) (J p).1 - 1 < (J p).1 := by omega
            have hf := hbd.2 _ hlt
            refine wp_f (nI_m1 (by omega)) (r_no1 (wp_t rfl ?_))
            rw [sS_00, hM0.2.2.1]
            exact h1 _ hlt (by omega)
      refine s_latCell hIp hbd hc (fun e => wp_t2 rfl (Or.inr ⟨rfl, ?_⟩)) (fun k hk e => wp_f2 (nI_m1 (by have := hbd.2 k hk; omega)) ?_)
      · refine gd_le (n := 4) hp (by omega) (r_isCell hc (wp_f (by decide) (r_no1 (wp_t rfl (ref (fun _ => ?_) (fun k hk e2 => absurd (e.symm.trans e2) (by omega)))))))
        exact k_thr (P := fun mu7 => K _ _ fd mu7) (by decide) (sS_eq _ _ _) (hK _ _ _ _ (Rel_0 hC hM hP))
      · unfold V_X6_turnOf
        rw [i_turn (hbd.2 k hk), hC.2.2.2.2.1]
        refine gd_le (n := 4) hp (by omega) (r_isCell hc (wp_f (by decide) (r_no1 (wp_t rfl (ref (fun e0 => absurd (e.symm.trans e0) (by omega)) (fun k2 hk2 e2 => ?_))))))
        have ek : k2 = k := by have := e.symm.trans e2; omega
        subst ek
        exact k_val (f := f) (P := fun mu7 => K _ _ fd mu7) (sS_eq _ _ _) (hK _ _ _ _ (Rel_0 hC hM hP))
theorem case14_ok (hR : Rel g mu) (hK : ∀ g' f' fd' mu', Rel g' mu' → K g' f' fd' mu') : V_case14 x1 x2 x3 g f fd mu K := by
  obtain ⟨sd, n, t, sv, ow, kk, s0, D, m, J, tr, F, bk, al, en, hC, hM, hP⟩ := hR
  have h24 := hC.1.2.1
  have hM0 := RM_0 (v := 0) hM
  unfold V_case14 V_L_lastSeen V_X6_lastSeen V_X7_lastSeen J_X7_lastSeen_26 J_X7_lastSeen_27
  rw [hM.1.2.1]
  rcases bad_or (n := 4) (by omega) x1 with hb | ⟨p, hp, rfl⟩
  · refine s_reqPx hb (Or.inl ⟨rfl, bad_le hb (r_no0 (wp_f (by decide) ?_)) (r_no0 (wp_f (by decide) ?_))⟩)
    · exact k_thr (P := fun mu7 => K _ _ fd mu7) (by decide) (sS_eq _ _ _) (hK _ _ _ _ (Rel_0 hC hM hP))
    · exact k_thr (P := fun mu7 => K _ _ fd mu7) (by decide) (sS_eq _ _ _) (hK _ _ _ _ (Rel_0 hC hM hP))
  · have hIp := hC.2.2.2.2.2.2.1 p hp
    have hMp0 := hM0.2.2.2.2.1 p hp
    have hbd := (hP.2.2.2.2.1 p hp).bd
    have hz := hbd.1
    have ip : vp_in (nI p) 4 := vp_in_nI hp (by omega)
    refine s_reqP hp ?_
    rcases bad_or (n := n) (by omega) x2 with hb | ⟨u, hu, rfl⟩
    · refine s_reqUx hC.1.1 hb (Or.inl ⟨rfl, gd_le (n := 4) hp (by omega) (bad_le hb (r_no0 (wp_f (by decide) ?_)) (r_no0 (wp_f (by decide) ?_)))⟩)
      · exact k_thr (P := fun mu7 => K _ _ fd mu7) (by decide) (sS_eq _ _ _) (hK _ _ _ _ (Rel_0 hC hM hP))
      · exact k_thr (P := fun mu7 => K _ _ fd mu7) (by decide) (sS_eq _ _ _) (hK _ _ _ _ (Rel_0 hC hM hP))
    · refine s_reqU hC.1.1 h24 hu ⟨ip, ?_⟩
      rw [nI_clamp (n := p) (by omega)]
      have ref : ∀ {post : Int32 → St → Prop}, (lstK (fun k => decide ((J p).2 k % 1000 = u)) (J p).1 = 0 → post 0 (sS mu 0 2)) → (∀ k, k < (J p).1 → lstK (fun k => decide ((J p).2 k % 1000 = u)) (J p).1 = k + 1 → post (nI ((J p).2 k / 1000 % 100)) (sS mu 0 0)) → lpP (fun K41 (z : Int32 × Int32 × Int32 × Int32 × St) => J_X7_lastSeen_41 (nI p) (nI u) post K41 z.1 z.2.1 z.2.2.1 z.2.2.2.1 z.2.2.2.2) (nI p, nI u, (-1), 0, sS mu 0 0) := fun {post} h0 h1 => by
        refine lp_for (J p).1 (fun k y => y = (nI p, nI u, (if lstK (fun k => decide ((J p).2 k % 1000 = u)) k = 0 then -1 else nI ((J p).2 (lstK (fun k => decide ((J p).2 k % 1000 = u)) k - 1) / 1000 % 100)), nI k, sS mu 0 0)) ?_ ?_ rfl
        · rintro K2 k _ hk rfl hK2
          show J_X7_lastSeen_41 (nI p) (nI u) post K2 (nI p) (nI u) _ (nI k) (sS mu 0 0)
          have hf := hbd.2 k hk
          have hm := Nat.mod_lt ((J p).2 k) (show 0 < 1000 by omega)
          have hs : lstK (fun k => decide ((J p).2 k % 1000 = u)) (k + 1) = if decide ((J p).2 k % 1000 = u) = true then k + 1 else lstK (fun k => decide ((J p).2 k % 1000 = u)) k := rfl
          unfold J_X7_lastSeen_41 J_X7_lastSeen_87 V_X7_cellIn V_X7_unitIn
          rw [i_61, nI_clamp (n := p) (by omega), nI_clamp (n := 61 * p + k) (by omega), hMp0.1, hMp0.2 k hk, i_cell hf, i_unit hf]
          have iv : vp_in (nI (61 * p + k)) 244 := vp_in_nI (by omega) (by omega)
          refine ⟨ip, pk_le (J p).1 k (fun q => absurd q (by omega)) (fun _ => ⟨iv, And.symm (pk_eq ((J p).2 k % 1000) u (fun e => ⟨iv, hK2 _ ?_⟩) (fun e => hK2 _ ?_))⟩)⟩
          · rw [hs, if_pos (decide_eq_true e), if_neg (by omega), nI_up]
            rfl
          · have hs2 : lstK (fun k => decide ((J p).2 k % 1000 = u)) (k + 1) = lstK (fun k => decide ((J p).2 k % 1000 = u)) k := by rw [hs]; exact if_neg (by simpa using e)
            rw [hs2, nI_up]
        · rintro K2 _ rfl
          show J_X7_lastSeen_41 (nI p) (nI u) post K2 (nI p) (nI u) _ (nI (J p).1) (sS mu 0 0)
          unfold J_X7_lastSeen_41 J_X7_lastSeen_104
          rw [nI_clamp (n := p) (by omega), hMp0.1]
          refine ⟨ip, pk_le (J p).1 (J p).1 (fun _ => ?_) (fun q => absurd q (by omega))⟩
          have hl := lstK_le (fun k => decide ((J p).2 k % 1000 = u)) (J p).1
          by_cases e : lstK (fun k => decide ((J p).2 k % 1000 = u)) (J p).1 = 0
          · rw [if_pos e]
            refine wp_t rfl (r_no0 (wp_f (by decide) ?_))
            rw [sS_00]
            exact h0 e
          · rw [if_neg e]
            have hlt : lstK (fun k => decide ((J p).2 k % 1000 = u)) (J p).1 - 1 < (J p).1 := by omega
            have hm := Nat.mod_lt ((J p).2 (lstK (fun k => decide ((J p).2 k % 1000 = u)) (J p).1 - 1) / 1000) (show 0 < 100 by omega)
            refine wp_f (nI_m1 (by omega)) (r_no1 (wp_t rfl ?_))
            rw [sS_00]
            exact h1 _ hlt (by omega)
      refine s_latUnit hIp hbd (by omega) (fun e => wp_t2 rfl (Or.inr ⟨rfl, ?_⟩)) (fun k hk e => wp_f2 (nI_m1 (by have := hbd.2 k hk; omega)) ?_)
      · refine gd_le (n := 4) hp (by omega) (gd_le hu (by omega) (r_no1 (wp_t rfl (ref (fun _ => ?_) (fun k hk e2 => absurd (e.symm.trans e2) (by omega))))))
        exact k_thr (P := fun mu7 => K _ _ fd mu7) (by decide) (sS_eq _ _ _) (hK _ _ _ _ (Rel_0 hC hM hP))
      · unfold V_X6_placeOf
        rw [i_place (hbd.2 k hk)]
        refine gd_le (n := 4) hp (by omega) (gd_le hu (by omega) (r_no1 (wp_t rfl (ref (fun e0 => absurd (e.symm.trans e0) (by omega)) (fun k2 hk2 e2 => ?_)))))
        have ek : k2 = k := by have := e.symm.trans e2; omega
        subst ek
        exact k_val (f := f) (P := fun mu7 => K _ _ fd mu7) (sS_eq _ _ _) (hK _ _ _ _ (Rel_0 hC hM hP))
end C2
