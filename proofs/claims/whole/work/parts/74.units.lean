/-! PART 74: units are added, orders given -/
/-- the kind of a letter; 3: none -/
def kdN (q : Nat) : Nat := if q = 115 then 0 else if q = 97 then 1 else if q = 116 then 2 else 3
theorem kdN_le (q : Nat) : kdN q ≤ 3 := by
  unfold kdN
  split
  · omega
  · split
    · omega
    · split <;> omega
theorem kdN_kc {q : Nat} (h : kdN q < 3) : kcN (kdN q) = q := by
  unfold kdN at *
  split at h
  · rename_i e; rw [if_pos e, e]; rfl
  · rename_i e
    rw [if_neg e]
    split at h
    · rename_i e2; rw [if_pos e2, e2]; rfl
    · rename_i e2
      rw [if_neg e2]
      split at h
      · rename_i e3; rw [if_pos e3, e3]; rfl
      · omega
theorem kd_byte : ∀ q : Nat, q < 256 → ∀ k : Nat, k < 3 → ((kByt.getD 1 []).getD k 0 = (Int32.toInt8 (nI q)).toInt32 ↔ kdN q = k) := by decide +kernel
theorem s_indexOf {q : Nat} {post : Int32 → Prop} (hq : q < 65536) (h : post (iI 3 (kdN q))) : V_J0_indexOf_0f7a4 1 (nI q) post := by
  unfold V_J0_indexOf_0f7a4 V_J0_indexOf_7cf53 V_J0_isLatin1_aae02
  refine wp_f (by decide) (wp_t2 rfl (wp_f (by decide) ?_))
  unfold V_J0_length_8abf5 V_J0_coder_7d493
  refine wp_f (by decide) ?_
  have e : (nI (kLen.getD 1 0)) >>> ((0 : Int32) &&& 31) = nI 3 := by decide +kernel
  show V_J1_indexOf_4cfef 1 (nI q) 0 ((nI (kLen.getD 1 0)) >>> ((0 : Int32) &&& 31)) (fun r4 => post r4)
  rw [e]
  unfold V_J1_indexOf_4cfef V_J1_canEncode_9a6ad
  refine wp_f (nI_pos (by omega)) (pk_lt 255 q (fun z => ?_) (fun z => ?_))
  · have ek : kdN q = 3 := by
      unfold kdN
      rw [if_neg (by omega), if_neg (by omega), if_neg (by omega)]
    rw [ek] at h
    exact wp_t2 rfl h
  · refine wp_f2 (by decide) (wp_t (by decide +kernel) ?_)
    have e0 : (if (0 : Int32) < 0 then (0 : Int32) else 0) = nI 0 := by decide +kernel
    have e3 : (if nI (kLen.getD 1 0) < nI 3 then nI (kLen.getD 1 0) else nI 3) = nI 3 := by decide +kernel
    rw [e0, e3]
    unfold V_J1_indexOfChar_4cfef
    refine lp_for 3 (fun k y => y = (nI 3, (Int32.toInt8 (nI q)).toInt32, nI k) ∧ k ≤ kdN q) ?_ ?_ ⟨rfl, Nat.zero_le _⟩
    · rintro K k _ hk ⟨rfl, hle⟩ hK
      show J_J1_indexOfChar_4cfef_7 1 (nI q) (nI 0) (nI 3) _ K (nI 3) (Int32.toInt8 (nI q)).toInt32 (nI k)
      unfold J_J1_indexOfChar_4cfef_7
      rw [nI_clamp (by omega)]
      have hb := kd_byte q (by omega) k hk
      refine pk_le 3 k (fun y => absurd y (by omega)) (fun _ => ⟨vp_in_nI hk (by decide), ?_⟩)
      by_cases ek : kdN q = k
      · rw [ek, iI_in hk] at h
        exact wp_t2 (hb.mpr ek) h
      · exact wp_f2 (fun y => ek (hb.mp y)) (hK _ ⟨by rw [nI_up], by omega⟩)
    · rintro K _ ⟨rfl, hle⟩
      show J_J1_indexOfChar_4cfef_7 1 (nI q) (nI 0) (nI 3) _ K (nI 3) (Int32.toInt8 (nI q)).toInt32 (nI 3)
      unfold J_J1_indexOfChar_4cfef_7
      rw [iI_out hle] at h
      exact pk_le 3 3 (fun _ => h) (fun y => absurd y (by omega))
section PU
variable {g mu : St} {n t : Nat}
theorem s_put {w : Nat} {a b c : Int32} {post : Int32 → St → Prop} (hn : g.2 (3 + w) = nI n) (h24 : n < 24)
    (h : ∀ g', kp [5 + 10 * w, 6 + 10 * w, 7 + 10 * w, 8 + 10 * w] [3 + w] g g' → g'.2 (3 + w) = nI (n + 1) → g'.1 (5 + 10 * w) = upd (g.1 (5 + 10 * w)) n a → g'.1 (6 + 10 * w) = upd (g.1 (6 + 10 * w)) n b → g'.1 (7 + 10 * w) = upd (g.1 (7 + 10 * w)) n c → g'.1 (8 + 10 * w) = upd (g.1 (8 + 10 * w)) n c → post (nI n) g') : V_X5_put w a b c g post := by
  unfold V_X5_put
  have iv : vp_in (nI n) 24 := vp_in_nI h24 (by omega)
  simp only [sA_2, hn, nI_clamp (n := n) (by omega)]
  refine pk_lt n 24 (fun _ => ⟨iv, iv, iv, iv, ?_⟩) (fun z => absurd z (by omega))
  rw [sS_eq, nI_up, nI_pred]
  refine h _ (kp_sS (kp_sA (kp_sA (kp_sA (kp_sA kp_rf (by simp)) (by simp)) (by simp)) (by simp)) (by simp)) (sS_eq _ _ _) ?_ ?_ ?_ ?_
  · rw [sS_1, sA_ne _ _ (by omega), sA_ne _ _ (by omega), sA_ne _ _ (by omega), sA_eq]
  · rw [sS_1, sA_ne _ _ (by omega), sA_ne _ _ (by omega), sA_eq, sA_ne _ _ (by omega)]
  · rw [sS_1, sA_ne _ _ (by omega), sA_eq, sA_ne _ _ (by omega), sA_ne _ _ (by omega)]
  · rw [sS_1, sA_eq, sA_ne _ _ (by omega), sA_ne _ _ (by omega), sA_ne _ _ (by omega)]
theorem s_addUnit {p q x : Nat} {sd : Int32} {ow kk c : Nat → Nat} {post : Int32 → St → Prop} {px : String → St → Prop} (hs : CUs 0 sd n ow kk g) (hc : CUc 0 n c g) (hd : g.2 1 = nI t) (ht : t ≤ 99) (hp : p < 4) (hq : q < 65536) (hx : x < 64)
    (h2 : kdN q = 3 → px "java/lang/IllegalArgumentException" g)
    (h3 : kdN q < 3 → (gN sd x = 120 ∨ fN (fun u => decide (c u = x)) n < n) → px "java/lang/UnsupportedOperationException" g)
    (h4 : kdN q < 3 → ¬ gN sd x = 120 → ¬ fN (fun u => decide (c u = x)) n < n → ¬ (n < 24 ∧ t = 0) → px "java/lang/IllegalStateException" g)
    (h5 : kdN q < 3 → ¬ gN sd x = 120 → ¬ fN (fun u => decide (c u = x)) n < n → n < 24 → t = 0 → ∀ g', kp [5, 6, 7, 8] [3] g g' → g'.2 3 = nI (n + 1) → g'.1 5 = upd (g.1 5) n (nI p) → g'.1 6 = upd (g.1 6) n (nI (kdN q)) → g'.1 7 = upd (g.1 7) n (nI x) → g'.1 8 = upd (g.1 8) n (nI x) → post (nI n) g') : V_X6_addUnit (nI p) (nI q) (nI x) g post px := by
  have h24 := hs.2.1
  have hkd := kdN_le q
  unfold V_X6_addUnit J_X6_addUnit_62 J_X6_addUnit_94
  refine s_reqP hp (s_reqC hx (s_indexOf hq ?_))
  by_cases hk : kdN q < 3
  · rw [iI_in hk]
    refine wp_t (nI_pos' (by omega)) (s_at (hs.2.2.1 x hx) hx ?_)
    have hg := gN_lt sd x
    refine pk_eq (gN sd x) 120 (fun e => h3 hk (Or.inl e)) (fun e => s_onC hs.1 h24 hc hx ?_)
    by_cases ho : fN (fun u => decide (c u = x)) n < n
    · rw [iI_in ho]
      exact wp_f (nI_m1 (by omega)) (h3 hk (Or.inr ho))
    · rw [iI_out (by omega)]
      have e3 : g.2 3 = nI n := hs.1
      rw [e3, hd]
      refine wp_t rfl (pk_le 24 n (fun z => h4 hk e ho (fun y => by omega)) (fun z => pk_le t 0 (fun y => ?_) (fun y => h4 hk e ho (fun w => by omega))))
      exact s_put hs.1 z (fun g' k1 a1 a2 a3 a4 a5 => h5 hk e ho z (by omega) g' k1 a1 a2 a3 a4 a5)
  · rw [iI_out (by omega)]
    exact wp_f (by decide) (h2 (by omega))
theorem r_put {p q x : Nat} {y1 y2 y3 : Int32} {post : Int32 → St → Prop} (hn : mu.2 2 = nI n) (h24 : n < 24) (hq : q < 65536)
    (h : ∀ mu', kp [1, 2, 7] [0, 2] mu mu' → mu'.2 0 = 0 → mu'.2 2 = nI (n + 1) → mu'.1 1 = upd (mu.1 1) n (nI p) → mu'.1 7 = upd (mu.1 7) n (nI q) → mu'.1 2 = upd (mu.1 2) n (nI x) → post (nI n) mu') : J_X7_addUnit_116 y1 y2 y3 post (nI p) (nI q) (nI x) 1 mu := by
  unfold J_X7_addUnit_116
  have iv : vp_in (nI n) 24 := vp_in_nI h24 (by omega)
  have hn0 : (sS mu 0 0).2 2 = nI n := (sS_ne _ _ (by decide)).trans hn
  have k0 : kp [1, 2, 7] [0, 2] mu (sS mu 0 0) := kp_sS kp_rf (by simp)
  have z0 : (sS mu 0 0).2 0 = 0 := sS_eq _ _ _
  have b1 : (sS mu 0 0).1 = mu.1 := rfl
  refine r_no1 (wp_t rfl ?_)
  rw [← b1] at h
  generalize sS mu 0 0 = g0 at hn0 k0 z0 h ⊢
  simp only [sA_2, hn0, nI_clamp (n := n) (by omega), vp_nar_c hq]
  refine ⟨iv, iv, iv, ?_⟩
  rw [nI_up]
  refine h _ (kp_sS (kp_sA (kp_sA (kp_sA k0 (by simp)) (by simp)) (by simp)) (by simp)) ((sS_ne _ _ (by decide)).trans z0) (sS_eq _ _ _) ?_ ?_ ?_
  · rw [sS_1, sA_ne _ _ (by decide), sA_ne _ _ (by decide), sA_eq]
  · rw [sS_1, sA_ne _ _ (by decide), sA_eq, sA_ne _ _ (by decide)]
  · rw [sS_1, sA_eq, sA_ne _ _ (by decide), sA_ne _ _ (by decide)]
theorem r_addUnit {p q x : Nat} {sd : Int32} {ow kk c : Nat → Nat} {post : Int32 → St → Prop} (hs : MUs sd n ow kk mu) (hc : MUc n c mu) (hd : mu.2 3 = nI t) (ht : t ≤ 99) (hp : p < 4) (hq : q < 65536) (hx : x < 64)
    (h2 : kdN q = 3 → post 0 (sS mu 0 2))
    (h3 : kdN q < 3 → (gN sd x = 120 ∨ fN (fun u => decide (c u = x)) n < n) → post 0 (sS mu 0 3))
    (h4 : kdN q < 3 → ¬ gN sd x = 120 → ¬ fN (fun u => decide (c u = x)) n < n → ¬ (n < 24 ∧ t = 0) → post 0 (sS mu 0 4))
    (h5 : kdN q < 3 → ¬ gN sd x = 120 → ¬ fN (fun u => decide (c u = x)) n < n → n < 24 → t = 0 → ∀ mu', kp [1, 2, 7] [0, 2] mu mu' → mu'.2 0 = 0 → mu'.2 2 = nI (n + 1) → mu'.1 1 = upd (mu.1 1) n (nI p) → mu'.1 7 = upd (mu.1 7) n (nI q) → mu'.1 2 = upd (mu.1 2) n (nI x) → post (nI n) mu') : V_X7_addUnit (nI p) (nI q) (nI x) mu post := by
  have h24 := hs.2.2.1
  have k0 : kp [] [0] mu (sS mu 0 0) := kp_sS kp_rf (by simp)
  have hs0 : MUs sd n ow kk (sS mu 0 0) := MUs_kp hs k0 (by simp) (by simp) (by simp) (by simp)
  have hc0 : MUc n c (sS mu 0 0) := MUc_kp hc k0 (by simp)
  have hd0 : (sS mu 0 0).2 3 = nI t := (k0.2 3 (by simp)).trans hd
  unfold V_X7_addUnit J_X7_addUnit_22 J_X7_addUnit_48
  refine gd_le (n := 4) hp (by omega) (r_isCell hx (wp_f (by decide) (r_no1 (wp_t2 rfl ?_))))
  -- behind the kind
  have go : kdN q < 3 → J_X7_addUnit_53 (nI p) (nI q) (nI x) post (nI p) (nI q) (nI x) 1 (sS mu 0 0) := fun hk => by
    unfold J_X7_addUnit_53 J_X7_addUnit_86 J_X7_addUnit_87 J_X7_addUnit_115
    refine r_no1 (wp_t rfl ?_)
    rw [sS_00]
    refine r_ground hx ?_
    have e1 : (sS mu 0 0).2 1 = sd := hs0.1
    rw [e1]
    have hg := gN_lt sd x
    refine pk_eq (gN sd x) 120 (fun e => r_no0 (wp_f2 (by decide) ?_)) (fun e => r_on (n := n) (c := c) hs0.2.1 h24 hc0 hx ?_)
    · rw [sS_00]; exact h3 hk (Or.inl e)
    · by_cases ho : fN (fun u => decide (c u = x)) n < n
      · rw [iI_in ho]
        refine wp_f2 (nI_m1 (by omega)) (r_no0 (wp_f2 (by decide) ?_))
        rw [sS_00]
        exact h3 hk (Or.inr ho)
      · rw [iI_out (by omega)]
        refine wp_t2 rfl (r_no1 (wp_t2 rfl ?_))
        rw [sS_00, hs0.2.1, hd0]
        have no : ¬ (n < 24 ∧ t = 0) → J_X7_addUnit_116 (nI p) (nI q) (nI x) post (nI p) (nI q) (nI x) 0 (sS mu 0 0) := fun hno => by
          unfold J_X7_addUnit_116
          refine r_no0 (wp_f (by decide) ?_)
          rw [sS_00]
          exact h4 hk e ho hno
        refine pk_le 24 n (fun z => no (fun y => by omega)) (fun z => And.symm (pk_eq t 0 (fun y => ?_) (fun y => no (fun w => y w.2))))
        refine r_put hs0.2.1 z hq (fun mu' k1 a1 a2 a3 a4 a5 => h5 hk e ho z y mu' (kp_tr (kp_up k0 (fun k hk => absurd hk (by simp)) (fun k hk => by simp at hk ⊢; omega)) k1) a1 a2 a3 a4 a5)
  refine pk_eq q 115 (fun e => go (by rw [e]; decide)) (fun e => pk_eq q 97 (fun e2 => go (by rw [e2]; decide)) (fun e2 => And.symm (pk_eq q 116 (fun e3 => go (by rw [e3]; decide)) (fun e3 => ?_))))
  unfold J_X7_addUnit_53
  refine r_no0 (wp_f (by decide) ?_)
  rw [sS_00]
  refine h2 ?_
  unfold kdN
  rw [if_neg e, if_neg e2, if_neg e3]
def stN (k : Nat) : Nat := match k with | 0 => 2 | 1 => 1 | _ => 0
theorem stN_le (k : Nat) : stN k ≤ 2 := by
  unfold stN
  split <;> omega
theorem kSteps_eq {k : Nat} (hk : k < 3) : kSteps k = nI (stN k) := by
  match k, hk with
  | 0, _ => rfl
  | 1, _ => rfl
  | 2, _ => rfl
  | k + 3, h => exact absurd h (by omega)
theorem r_steps {u : Nat} {sd : Int32} {ow kk : Nat → Nat} {post : Int32 → St → Prop} (hs : MUs sd n ow kk mu) (hu : u < n) (h : post (nI (stN (kk u))) mu) : V_X7_steps (nI u) mu post := by
  obtain ⟨-, -, h24, hU⟩ := hs
  obtain ⟨-, -, k1, k2⟩ := hU u hu
  unfold V_X7_steps
  rw [nI_clamp (by omega), k1]
  generalize kk u = k at k2 h
  refine ⟨vp_in_nI (by omega) (by decide), ?_⟩
  match k, k2, h with
  | 0, _, h => exact wp_t2 rfl h
  | 1, _, h => exact wp_f2 (by decide) ⟨vp_in_nI (by omega) (by decide), wp_t2 rfl h⟩
  | 2, _, h => exact wp_f2 (by decide) ⟨vp_in_nI (by omega) (by decide), wp_f2 (by decide) h⟩
  | k + 3, z, _ => exact absurd z (by omega)
theorem s_givenTo {u : Nat} {post : Int32 → St → Prop} (hu : u < 24) (h : post (g.1 23 u) g) : V_X4_givenTo (nI u) g post := by
  unfold V_X4_givenTo
  rw [nI_clamp (by omega)]
  exact gd_le (n := 24) hu (by omega) |> fun z => z ⟨vp_in_nI hu (by omega), h⟩
theorem s_order {u d : Nat} {sd : Int32} {ow kk c : Nat → Nat} {D : Nat → Nat → Nat → Nat} {m : Nat → Nat} {post : Int32 → St → Prop} {px : String → St → Prop} (hs : CUs 0 sd n ow kk g) (hc : CUc 0 n c g) (hC : ∀ u, u < n → c u ≤ 64) (hd : g.2 1 = nI t) (ht : t ≤ 99) (hO : COall D m g) (hm : ∀ u, u < 24 → m u ≤ 2) (hu : u < n) (hd8 : d < 8)
    (h3 : ¬ (c u < 64 ∧ m u < stN (kk u)) → px "java/lang/UnsupportedOperationException" g)
    (h4 : c u < 64 → m u < stN (kk u) → ∀ g', kp [22, 23] [] g g' → g'.1 22 = upd (g.1 22) (spN t u (m u)) (nI d) → g'.1 23 = upd (g.1 23) u (nI (m u + 1)) → post (nI (m u + 1)) g') : V_X6_order (nI u) (nI d) g post px := by
  have h24 := hs.2.1
  obtain ⟨-, -, k1, k2⟩ := hs.2.2.2 u hu
  have hmu := hm u (by omega)
  have hst := stN_le (kk u)
  unfold V_X6_order J_X6_order_61
  refine s_reqU hs.1 h24 hu (gd_lt (n := 8) hd8 (by omega) ?_)
  unfold V_X5_lives
  refine s_place hs.1 h24 hu ?_
  have ecu : g.1 (8 + 10 * 0) u = iI 64 (c u) := hc u hu
  rw [ecu]
  by_cases hl : c u < 64
  · refine wp_f (by rw [iI_in hl]; exact nI_m1 (by omega)) (wp_f (by decide) (s_givenTo (by omega) (s_steps hs.1 h24 hu k1 k2 ?_)))
    rw [hO.2 u (by omega), kSteps_eq k2]
    refine pk_lt (m u) (stN (kk u)) (fun z => ?_) (fun z => h3 (fun y => by omega))
    unfold V_X4_give
    refine s_givenTo (by omega) ?_
    rw [hO.2 u (by omega), hd]
    have hb : spN t u (m u) < 4800 := by unfold spN; omega
    refine s_spotOf ht (by omega) (by omega) (wp_f2 (nI_m1 (by omega)) ⟨vp_in_nI hb (by omega), vp_in_nI (by omega) (by omega), vp_in_nI (by omega) (by omega), vp_in_nI (by omega) (by omega), ?_⟩)
    rw [nI_clamp (n := spN t u (m u)) (by omega), nI_clamp (n := u) (by omega), sA_eq, pk_us, sA_ne (k := 23) (j := 22) _ _ (by decide), hO.2 u (by omega), nI_up]
    refine h4 hl z _ (kp_sA (kp_sA kp_rf (by simp)) (by simp)) ?_ (sA_eq _ _ _)
    rw [sA_ne (k := 22) (j := 23) _ _ (by decide), sA_eq]
  · exact wp_t (iI_out (by omega)) (wp_t rfl (h3 (fun y => hl y.1)))
theorem r_order {u d : Nat} {sd : Int32} {ow kk c : Nat → Nat} {D : Nat → Nat → Nat → Nat} {m : Nat → Nat} {post : Int32 → St → Prop} (hs : MUs sd n ow kk mu) (hc : MUc n c mu) (hO : MOall D m t mu) (hm : ∀ u, u < 24 → m u ≤ 2) (hu : u < n) (hd8 : d < 8)
    (h3 : ¬ (c u < 64 ∧ m u < stN (kk u)) → post 0 (sS mu 0 3))
    (h4 : c u < 64 → m u < stN (kk u) → ∀ mu', kp [4, 5, 6] [0] mu mu' → mu'.2 0 = 0 → mu'.1 4 = upd (mu.1 4) u (nI (m u + 1)) → mu'.1 5 = (if m u = 0 then upd (mu.1 5) u (nI d) else mu.1 5) → mu'.1 6 = (if m u = 0 then mu.1 6 else upd (mu.1 6) u (nI d)) → post (nI (m u + 1)) mu') : V_X7_order (nI u) (nI d) mu post := by
  have h24 := hs.2.2.1
  have k0 : kp [] [0] mu (sS mu 0 0) := kp_sS kp_rf (by simp)
  have hs0 : MUs sd n ow kk (sS mu 0 0) := MUs_kp hs k0 (by simp) (by simp) (by simp) (by simp)
  have hst := stN_le (kk u)
  have hmu := hm u (by omega)
  have iv : vp_in (nI u) 24 := vp_in_nI (by omega) (by omega)
  have e2 : (sS mu 0 0).1 2 u = iI 64 (c u) := hc u hu
  have e4 : (sS mu 0 0).1 4 u = nI (m u) := (hO u (by omega)).1
  unfold V_X7_order J_X7_order_24 J_X7_order_60
  refine r_noU hs.2.1 h24 hu (wp_t2 rfl (gd_le (n := 8) hd8 (by omega) (r_no1 (wp_t2 rfl ⟨iv, ?_⟩))))
  rw [sS_00, nI_clamp (by omega), e2, e4]
  have no : ¬ (c u < 64 ∧ m u < stN (kk u)) → J_X7_order_61 (nI u) (nI d) post (nI u) (nI d) 0 (sS mu 0 0) := fun hno => by
    unfold J_X7_order_61
    refine r_no0 (wp_f (by decide) ?_)
    rw [sS_00]
    exact h3 hno
  by_cases hl : c u < 64
  · refine wp_f (by rw [iI_in hl]; exact nI_m1 (by omega)) ⟨iv, r_steps hs0 hu (pk_le (stN (kk u)) (m u) (fun z => no (fun y => by omega)) (fun z => ?_))⟩
    unfold J_X7_order_61 J_X7_order_96
    refine r_no1 (wp_t rfl ⟨iv, ?_⟩)
    rw [sS_00, nI_clamp (by omega), e4]
    have h4 := h4 hl z
    have b1 : (sS mu 0 0).1 = mu.1 := rfl
    have k1 : kp [4, 5, 6] [0] mu (sS mu 0 0) := kp_sS kp_rf (by simp)
    refine And.symm (pk_eq (m u) 0 (fun e => ⟨iv, iv, iv, ?_⟩) (fun e => ⟨iv, iv, iv, ?_⟩))
    · rw [sA_ne (k := 4) (j := 5) _ _ (by decide), e4, nI_up]
      refine h4 _ (kp_sA (kp_sA k1 (by simp)) (by simp)) (sS_eq mu 0 0) (by rw [sA_eq]; rfl) ?_ ?_
      · rw [if_pos e, sA_ne (k := 5) (j := 4) _ _ (by decide), sA_eq]; rfl
      · rw [if_pos e, sA_ne (k := 6) (j := 4) _ _ (by decide), sA_ne (k := 6) (j := 5) _ _ (by decide)]; rfl
    · rw [sA_ne (k := 4) (j := 6) _ _ (by decide), e4, nI_up]
      refine h4 _ (kp_sA (kp_sA k1 (by simp)) (by simp)) (sS_eq mu 0 0) (by rw [sA_eq]; rfl) ?_ ?_
      · rw [if_neg e, sA_ne (k := 5) (j := 4) _ _ (by decide), sA_ne (k := 5) (j := 6) _ _ (by decide)]; rfl
      · rw [if_neg e, sA_ne (k := 6) (j := 4) _ _ (by decide), sA_eq]; rfl
  · exact wp_t (iI_out (by omega)) (no (fun y => hl y.1))
end PU
