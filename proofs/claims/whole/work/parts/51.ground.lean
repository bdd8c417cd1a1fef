/-! PART 51: the ground, and where a step leads -/
theorem wp_t {c A B : Prop} (hc : c) (h : A) : (c → A) ∧ (¬ c → B) := ⟨fun _ => h, fun n => absurd hc n⟩
theorem wp_f {c A B : Prop} (hc : ¬ c) (h : B) : (c → A) ∧ (¬ c → B) := ⟨fun n => absurd n hc, fun _ => h⟩
theorem wp_t2 {c A B : Prop} (hc : c) (h : B) : (¬ c → A) ∧ (c → B) := ⟨fun n => absurd hc n, fun _ => h⟩
theorem wp_f2 {c A B : Prop} (hc : ¬ c) (h : A) : (¬ c → A) ∧ (c → B) := ⟨fun _ => h, fun n => absurd n hc⟩
def lcg : Nat → Int32 → Int32
  | 0, s => s
  | k + 1, s => lcg k s * 1103515245 + 12345
def wht (x : Int32) : Int32 := ((Int32.toUInt32 x >>> (Int32.toUInt32 16 &&& Int32.toUInt32 31)).toInt32) - ((Int32.toUInt32 x >>> (Int32.toUInt32 16 &&& Int32.toUInt32 31)).toInt32) / 8 * 8
theorem wht_ex (x : Int32) : ∃ j, j < 8 ∧ wht x = nI j := by
  obtain ⟨n, hn, rfl⟩ : ∃ n, n < 2 ^ 32 ∧ x = nI n := ⟨x.toBitVec.toNat, x.toBitVec.isLt, Int32.toBitVec_inj.mp (by show _ = BitVec.ofNat 32 _; simp)⟩
  unfold wht
  rw [pk_ushrN hn 16 16 (by decide)]
  exact ⟨n / 2 ^ 16 % 8, Nat.mod_lt _ (by decide), pk_rem (a := n / 2 ^ 16) (d := 8) (by omega) (by decide) (by decide)⟩
def whN (x : Int32) : Nat := (wht x).toNatClampNeg
theorem whN_lt (x : Int32) : whN x < 8 := by
  obtain ⟨j, hj, e⟩ := wht_ex x
  unfold whN
  rw [e, nI_clamp (by omega)]
  exact hj
theorem wht_eq (x : Int32) : wht x = nI (whN x) := by
  obtain ⟨j, hj, e⟩ := wht_ex x
  unfold whN
  rw [e, nI_clamp (by omega)]
/-- the ground's letter: p w h x -/
def chN (j : Nat) : Nat := if j < 4 then 112 else if j < 6 then 119 else if j = 6 then 104 else 120
theorem chN_lt (j : Nat) : chN j < 65536 := by
  unfold chN
  split
  · omega
  · split
    · omega
    · split <;> omega
def gN (sd : Int32) (c : Nat) : Nat := chN (whN (lcg (c + 1) sd))
theorem gN_lt (sd : Int32) (c : Nat) : gN sd c < 65536 := chN_lt _
theorem chB : ∀ j, j < 8 → ((Int32.toUInt32 (((kByt.getD 0 []).getD j 0) &&& 255) % 65536).toInt32) = nI (chN j) := by decide +kernel
theorem s_charAt {j : Nat} (hj : j < 8) {post : Int32 → Prop} (h : post (nI (chN j))) : V_J0_charAt_5068e 0 (nI j) post := by
  unfold V_J0_charAt_5068e V_J0_isLatin1_aae02
  refine wp_f (by decide) (wp_t2 rfl (wp_f (by decide) ?_))
  unfold V_J1_charAt_3b067 V_J0_checkIndex_df160 V_J3_checkIndex_8e157
  refine wp_f (nI_pos (by omega)) (wp_t (nI_lt hj (by decide)) ?_)
  rw [nI_clamp (by omega), chB j hj]
  exact ⟨vp_in_nI hj (by decide), (pk_charN (chN_lt j)).1, (pk_charN (chN_lt j)).1, h⟩
theorem vp_nar_c {q : Nat} (h : q < 65536) : vp_nar .char (nI q) = nI q := by
  unfold vp_nar
  rw [(pk_charN h).1]
theorem s_grow {w : Nat} {sd : Int32} {g : St} {post : St → Prop} (h : post (sA g (3 + 10 * w) (fun c => if c < 64 then nI (gN sd c) else g.1 (3 + 10 * w) c))) : V_X3_grow w sd g post := by
  unfold V_X3_grow
  refine lp_for 64 (fun k z => z.1 = lcg k sd ∧ z.2.1 = nI k ∧ z.2.2 = sA g (3 + 10 * w) (fun c => if c < k then nI (gN sd c) else g.1 (3 + 10 * w) c)) ?_ ?_ ⟨rfl, rfl, ?_⟩
  · rintro K k ⟨v, i, g1⟩ hk ⟨e1, e2, e3⟩ hK
    dsimp only at e1 e2 e3
    subst e1 e2 e3
    show J_X3_grow_4 w sd post K (lcg k sd) (nI k) _
    unfold J_X3_grow_4
    refine pk_le 64 k (fun c => absurd c (by omega)) (fun _ => ?_)
    show V_J0_charAt_5068e 0 (wht (lcg (k + 1) sd)) _
    rw [wht_eq]
    refine s_charAt (whN_lt _) ⟨vp_in_nI hk (by decide), hK _ ⟨rfl, nI_up k, ?_⟩⟩
    show sA _ (3 + 10 * w) _ = _
    rw [nI_clamp (by omega), sA_eq, sA_sA, vp_nar_c (chN_lt _)]
    congr 1
    funext c
    unfold upd
    by_cases e : c = k
    · subst e; simp [gN]
    · by_cases e2 : c < k
      · rw [if_neg e, if_pos (show c < k + 1 by omega)]; exact if_pos e2
      · rw [if_neg e, if_neg (show ¬ c < k + 1 by omega)]; exact if_neg e2
  · rintro K ⟨v, i, g1⟩ ⟨e1, e2, e3⟩
    dsimp only at e1 e2 e3
    subst e1 e2 e3
    show J_X3_grow_4 w sd post K (lcg 64 sd) (nI 64) _
    unfold J_X3_grow_4
    exact pk_le 64 64 (fun _ => h) (fun c => absurd c (by omega))
  · show g = _
    rw [show (fun c => if c < 0 then nI (gN sd c) else g.1 (3 + 10 * w) c) = g.1 (3 + 10 * w) from funext fun c => if_neg (Nat.not_lt_zero c)]
    exact (sA_self g _).symm
theorem r_ground {c : Nat} (hc : c < 64) {g : St} {post : Int32 → St → Prop} (h : post (nI (gN (g.2 1) c)) g) : V_X7_groundOf (nI c) g post := by
  unfold V_X7_groundOf
  refine lp_for (c + 1) (fun k z => z = (nI c, lcg k (g.2 1), nI k, g)) ?_ ?_ rfl
  · rintro K k _ hk rfl hK
    show J_X7_groundOf_7 (nI c) post K (nI c) (lcg k (g.2 1)) (nI k) g
    unfold J_X7_groundOf_7
    exact pk_lt c k (fun e => absurd e (by omega)) (fun _ => hK _ (by rw [nI_up]; rfl))
  · rintro K _ rfl
    show J_X7_groundOf_7 (nI c) post K (nI c) (lcg (c + 1) (g.2 1)) (nI (c + 1)) g
    unfold J_X7_groundOf_7
    refine pk_lt c (c + 1) (fun _ => ?_) (fun e => absurd e (by omega))
    show (4 ≤ wht (lcg (c + 1) (g.2 1)) → (6 ≤ wht (lcg (c + 1) (g.2 1)) → (¬ wht (lcg (c + 1) (g.2 1)) = 6 → post 120 g) ∧ (wht (lcg (c + 1) (g.2 1)) = 6 → post 104 g)) ∧ (¬ 6 ≤ wht (lcg (c + 1) (g.2 1)) → post 119 g)) ∧ (¬ 4 ≤ wht (lcg (c + 1) (g.2 1)) → post 112 g)
    have hp : post (nI (chN (whN (lcg (c + 1) (g.2 1))))) g := h
    have hw := whN_lt (lcg (c + 1) (g.2 1))
    rw [wht_eq]
    generalize whN (lcg (c + 1) (g.2 1)) = j at hp hw
    refine pk_le 4 j (fun h4 => pk_le 6 j (fun h6 => And.symm (pk_eq j 6 (fun e => ?_) (fun e => ?_))) (fun h6 => ?_)) (fun h4 => ?_)
    · rw [show chN j = 104 by unfold chN; rw [if_neg (by omega), if_neg (by omega), if_pos e]] at hp; exact hp
    · rw [show chN j = 120 by unfold chN; rw [if_neg (by omega), if_neg (by omega), if_neg e]] at hp; exact hp
    · rw [show chN j = 119 by unfold chN; rw [if_neg (by omega), if_pos (by omega)]] at hp; exact hp
    · rw [show chN j = 112 by unfold chN; rw [if_pos (by omega)]] at hp; exact hp
theorem s_isCell_in {c : Nat} (hc : c < 64) {post : Int32 → Prop} (h : post 1) : V_X6_isCell (nI c) post := by
  unfold V_X6_isCell
  exact wp_f (nI_pos (by omega)) (pk_le 64 c (fun e => absurd e (by omega)) (fun _ => h))
theorem s_isCell_out {x : Int32} (hx : ∀ c, c < 64 → x ≠ nI c) {post : Int32 → Prop} (h : post 0) : V_X6_isCell x post := by
  unfold V_X6_isCell
  refine ⟨fun _ => h, fun c => ⟨fun _ => h, fun c2 => ?_⟩⟩
  rcases pk_ix x (n := 64) (by decide) with h1 | h1 | ⟨j, hj, e⟩
  · exact absurd h1 c
  · exact absurd h1 c2
  · exact absurd e (hx j hj)
theorem s_at {w c : Nat} {sd : Int32} {g : St} {post : Int32 → St → Prop} (hG : g.1 (3 + 10 * w) c = nI (gN sd c)) (hc : c < 64) (h : post (nI (gN sd c)) g) : V_X3_at w (nI c) g post := by
  unfold V_X3_at
  refine s_isCell_in hc (wp_f (by decide) ?_)
  rw [nI_clamp (by omega), hG]
  exact ⟨vp_in_nI hc (by decide), (pk_charN (gN_lt sd c)).1, h⟩
/-! where a step leads: 64 is off the map -/
def dxN (d : Nat) : Nat := match d with | 0 => 1 | 1 => 2 | 2 => 2 | 3 => 2 | 4 => 1 | _ => 0
def dyN (d : Nat) : Nat := match d with | 0 => 0 | 1 => 0 | 2 => 1 | 3 => 2 | 4 => 2 | 5 => 2 | 6 => 1 | _ => 0
def mvN (c d : Nat) : Nat := if c % 8 + dxN d = 0 then 64 else if 9 ≤ c % 8 + dxN d then 64 else if c / 8 + dyN d = 0 then 64 else if 9 ≤ c / 8 + dyN d then 64 else 8 * (c / 8 + dyN d - 1) + (c % 8 + dxN d - 1)
theorem mv_x0 : ∀ d, d < 8 → ∀ c, c < 64 → ((nI c - nI c / 8 * 8) + kCols d < 0 ↔ c % 8 + dxN d = 0) := by decide +kernel
theorem mv_x1 : ∀ d, d < 8 → ∀ c, c < 64 → (8 ≤ (nI c - nI c / 8 * 8) + kCols d ↔ 9 ≤ c % 8 + dxN d) := by decide +kernel
theorem mv_x7 : ∀ d, d < 8 → ∀ c, c < 64 → (7 < (nI c - nI c / 8 * 8) + kCols d ↔ 9 ≤ c % 8 + dxN d) := by decide +kernel
theorem mv_y0 : ∀ d, d < 8 → ∀ c, c < 64 → (nI c / 8 + kRows d < 0 ↔ c / 8 + dyN d = 0) := by decide +kernel
theorem mv_y1 : ∀ d, d < 8 → ∀ c, c < 64 → (nI c / 8 + kRows d < 8 ↔ ¬ 9 ≤ c / 8 + dyN d) := by decide +kernel
theorem mv_y7 : ∀ d, d < 8 → ∀ c, c < 64 → (nI c / 8 + kRows d ≤ 7 ↔ ¬ 9 ≤ c / 8 + dyN d) := by decide +kernel
theorem mv_z : ∀ d, d < 8 → ∀ c, c < 64 → (mvN c d < 64 → 8 * (nI c / 8 + kRows d) + ((nI c - nI c / 8 * 8) + kCols d) = nI (mvN c d)) := by decide +kernel
theorem mv_lt (d : Nat) (hd : d < 8) (c : Nat) (hc : c < 64) (x0 : ¬ c % 8 + dxN d = 0) (x1 : ¬ 9 ≤ c % 8 + dxN d) (y0 : ¬ c / 8 + dyN d = 0) (y1 : ¬ 9 ≤ c / 8 + dyN d) : mvN c d < 64 := by
  unfold mvN
  rw [if_neg x0, if_neg x1, if_neg y0, if_neg y1]
  omega
/-- the cell that a unit on c wants for the order d; c itself, if it can't -/
def tgN (sd : Int32) (c d : Nat) : Nat := if d < 8 ∧ mvN c d < 64 ∧ gN sd (mvN c d) ≠ 120 then mvN c d else c
theorem tgN_off {sd : Int32} {c d : Nat} (h : ¬ mvN c d < 64) : tgN sd c d = c := if_neg (fun e => h e.2.1)
theorem s_beside {w c d : Nat} {sd : Int32} {g : St} {post : Int32 → St → Prop} (hG : ∀ i, i < 64 → g.1 (3 + 10 * w) i = nI (gN sd i)) (hc : c < 64) (h : post (nI (tgN sd c d)) g) : V_X3_beside w (nI c) (iI 8 d) g post := by
  unfold V_X3_beside
  by_cases hd : d < 8
  · rw [iI_in hd]
    refine wp_f (nI_pos (by omega)) (wp_t (nI_lt hd (by decide)) ?_)
    rw [nI_clamp (by omega)]
    refine ⟨vp_in_nI hd (by decide), vp_in_nI hd (by decide), ?_⟩
    by_cases x0 : c % 8 + dxN d = 0
    · rw [tgN_off (by unfold mvN; rw [if_pos x0]; omega)] at h
      exact wp_t ((mv_x0 d hd c hc).mpr x0) h
    refine wp_f (fun e => x0 ((mv_x0 d hd c hc).mp e)) ?_
    by_cases x1 : 9 ≤ c % 8 + dxN d
    · rw [tgN_off (by unfold mvN; rw [if_neg x0, if_pos x1]; omega)] at h
      exact wp_t ((mv_x1 d hd c hc).mpr x1) h
    refine wp_f (fun e => x1 ((mv_x1 d hd c hc).mp e)) ?_
    by_cases y0 : c / 8 + dyN d = 0
    · rw [tgN_off (by unfold mvN; rw [if_neg x0, if_neg x1, if_pos y0]; omega)] at h
      exact wp_t ((mv_y0 d hd c hc).mpr y0) h
    refine wp_f (fun e => y0 ((mv_y0 d hd c hc).mp e)) ?_
    by_cases y1 : 9 ≤ c / 8 + dyN d
    · rw [tgN_off (by unfold mvN; rw [if_neg x0, if_neg x1, if_neg y0, if_pos y1]; omega)] at h
      exact wp_f (fun e => (mv_y1 d hd c hc).mp e y1) h
    refine wp_t ((mv_y1 d hd c hc).mpr y1) ?_
    have hm := mv_lt d hd c hc x0 x1 y0 y1
    rw [mv_z d hd c hc hm]
    refine s_at (hG _ hm) hm ?_
    by_cases hw : gN sd (mvN c d) = 120
    · have e : tgN sd c d = c := if_neg (fun e => e.2.2 hw)
      rw [e] at h
      exact wp_t2 (by rw [hw]; rfl) h
    · have e : tgN sd c d = mvN c d := if_pos ⟨hd, hm, hw⟩
      rw [e] at h
      exact wp_f2 (fun e => hw ((nI_eq (b := 120) (Nat.lt_trans (gN_lt _ _) (by decide)) (by decide)).mp e)) h
  · have e : tgN sd c d = c := if_neg (fun e => hd e.1)
    rw [e] at h
    rw [iI_out (by omega)]
    exact wp_t (by decide) h
theorem r_moved55 {c d : Nat} {x1 x2 : Int32} {post : Int32 → Prop} (hc : c < 64) (hd : d < 8) (h : post (iI 64 (mvN c d))) : J_X7_moved_55 x1 x2 post (nI c) (kCols d) (kRows d) := by
  unfold J_X7_moved_55
  by_cases x0 : c % 8 + dxN d = 0
  · rw [iI_out (by unfold mvN; rw [if_pos x0]; omega)] at h
    exact wp_t ((mv_x0 d hd c hc).mpr x0) h
  refine wp_f (fun e => x0 ((mv_x0 d hd c hc).mp e)) ?_
  by_cases x1 : 9 ≤ c % 8 + dxN d
  · rw [iI_out (by unfold mvN; rw [if_neg x0, if_pos x1]; omega)] at h
    exact wp_t ((mv_x7 d hd c hc).mpr x1) h
  refine wp_f (fun e => x1 ((mv_x7 d hd c hc).mp e)) ?_
  by_cases y0 : c / 8 + dyN d = 0
  · rw [iI_out (by unfold mvN; rw [if_neg x0, if_neg x1, if_pos y0]; omega)] at h
    exact wp_t ((mv_y0 d hd c hc).mpr y0) h
  refine wp_f (fun e => y0 ((mv_y0 d hd c hc).mp e)) ?_
  by_cases y1 : 9 ≤ c / 8 + dyN d
  · rw [iI_out (by unfold mvN; rw [if_neg x0, if_neg x1, if_neg y0, if_pos y1]; omega)] at h
    exact wp_f (fun e => (mv_y7 d hd c hc).mp e y1) h
  refine wp_t ((mv_y7 d hd c hc).mpr y1) ?_
  have hm := mv_lt d hd c hc x0 x1 y0 y1
  rw [mv_z d hd c hc hm]
  rw [iI_in hm] at h
  exact h
theorem kR_0 : ∀ d, d < 8 → (d = 2 ∨ d = 6) → kRows d = 0 := by decide +kernel
theorem kR_m : ∀ d, d < 8 → (d < 2 ∨ 6 < d) → kRows d = -1 := by decide +kernel
theorem kR_1 : ∀ d, d < 8 → (2 < d ∧ d < 6) → kRows d = 1 := by decide +kernel
theorem kC_0 : ∀ d, d < 8 → (d = 0 ∨ d = 4) → kCols d = 0 := by decide +kernel
theorem kC_m : ∀ d, d < 8 → 4 < d → kCols d = -1 := by decide +kernel
theorem kC_1 : ∀ d, d < 8 → (0 < d ∧ d < 4) → kCols d = 1 := by decide +kernel
theorem r_moved23 {d : Nat} {x1 x2 v0 t0 : Int32} {post : Int32 → Prop} (hd : d < 8) (h : J_X7_moved_55 x1 x2 post v0 t0 (kRows d)) : J_X7_moved_23 x1 x2 post v0 (nI d) t0 := by
  unfold J_X7_moved_23 J_X7_moved_35 J_X7_moved_54
  refine pk_eq d 2 (fun e => ?_) (fun e => And.symm (pk_eq d 6 (fun e2 => ?_) (fun e2 => pk_le d 2 (fun e3 => ?_) (fun e3 => pk_le 6 d (fun e4 => ?_) (fun e4 => ?_)))))
  · rw [kR_0 d hd (Or.inl e)] at h; exact h
  · rw [kR_0 d hd (Or.inr e2)] at h; exact h
  · rw [kR_m d hd (Or.inl (by omega))] at h; exact h
  · rw [kR_m d hd (Or.inr (by omega))] at h; exact h
  · rw [kR_1 d hd ⟨by omega, by omega⟩] at h; exact h
theorem r_moved {c d : Nat} {post : Int32 → Prop} (hc : c < 64) (hd : d < 8) (h : post (iI 64 (mvN c d))) : V_X7_moved (nI c) (nI d) post := by
  have h2 := r_moved23 (x1 := nI c) (x2 := nI d) hd (r_moved55 hc hd h)
  unfold V_X7_moved J_X7_moved_9
  refine pk_eq d 0 (fun e => ?_) (fun e => And.symm (pk_eq d 4 (fun e2 => ?_) (fun e2 => pk_le 4 d (fun e3 => ?_) (fun e3 => ?_))))
  · rw [kC_0 d hd (Or.inl e)] at h2; exact h2
  · rw [kC_0 d hd (Or.inr e2)] at h2; exact h2
  · rw [kC_m d hd (by omega)] at h2; exact h2
  · rw [kC_1 d hd ⟨by omega, by omega⟩] at h2; exact h2
