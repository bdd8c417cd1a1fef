/-! PART 60: an index of sightings -/
def kyN (n : Nat) : Nat := n / 100000 * 1000 + n % 1000
/-- where a sighting with the key m goes, among the first z -/
def posN (f : Nat → Nat) (m : Nat) : Nat → Nat
  | 0 => 0
  | z + 1 => if m < kyN (f z) then posN f m z else z + 1
theorem posN_le (f : Nat → Nat) (m : Nat) : ∀ z, posN f m z ≤ z := by
  intro z
  induction z with
  | zero => exact Nat.le_refl _
  | succ z ih =>
    unfold posN
    split
    · omega
    · exact Nat.le_refl _
def insN (f : Nat → Nat) (r x : Nat) : Nat → Nat := fun k => if k < r then f k else if k = r then x else f (k - 1)
def addN (z : Nat) (f : Nat → Nat) (x : Nat) : Nat × (Nat → Nat) := if z < 60 then (z + 1, insN f (posN f (kyN x) z) x) else (60, fun k => insN f (posN f (kyN x) z) x (k + 1))
abbrev hasK (z : Nat) (f : Nat → Nat) (m : Nat) : Prop := ∃ k, k < z ∧ kyN (f k) = m
def addsN (z : Nat) (f : Nat → Nat) (x : Nat) : Nat × (Nat → Nat) := if hasK z f (kyN x) then (z, f) else addN z f x
def Ibd (z : Nat) (f : Nat → Nat) : Prop := z ≤ 60 ∧ ∀ k, k < z → f k < 10000000
theorem posN_spec (f : Nat → Nat) (m : Nat) : ∀ z, (posN f m z = 0 ∨ kyN (f (posN f m z - 1)) ≤ m) ∧ (∀ k, posN f m z ≤ k → k < z → m < kyN (f k)) := by
  intro z
  induction z with
  | zero => exact ⟨Or.inl rfl, fun k _ hk => absurd hk (by omega)⟩
  | succ z ih =>
    unfold posN
    by_cases h : m < kyN (f z)
    · rw [if_pos h]
      refine ⟨ih.1, fun k h1 h2 => ?_⟩
      by_cases e : k = z
      · rw [e]; exact h
      · exact ih.2 k h1 (by omega)
    · rw [if_neg h]
      refine ⟨Or.inr ?_, fun k h1 h2 => absurd h2 (by omega)⟩
      show kyN (f z) ≤ m
      omega
theorem addN_all {P : Nat → Prop} {z : Nat} {f : Nat → Nat} {x : Nat} (hz : z ≤ 60) (h2 : ∀ k, k < z → P (f k)) (hx : P x) : ∀ k, k < (addN z f x).1 → P ((addN z f x).2 k) := by
  have hp := posN_le f (kyN x) z
  unfold addN
  by_cases hz2 : z < 60
  · rw [if_pos hz2]
    intro k hk
    dsimp only at hk ⊢
    unfold insN
    split
    · exact h2 k (by omega)
    · split
      · exact hx
      · exact h2 (k - 1) (by omega)
  · rw [if_neg hz2]
    intro k hk
    dsimp only at hk ⊢
    unfold insN
    split
    · exact h2 (k + 1) (by omega)
    · split
      · exact hx
      · exact h2 (k + 1 - 1) (by omega)
theorem addN_le {z : Nat} {f : Nat → Nat} {x : Nat} : (addN z f x).1 ≤ 60 := by
  unfold addN
  split
  · dsimp only; omega
  · exact Nat.le_refl _
theorem addsN_all {P : Nat → Prop} {z : Nat} {f : Nat → Nat} {x : Nat} (hz : z ≤ 60) (h2 : ∀ k, k < z → P (f k)) (hx : P x) : ∀ k, k < (addsN z f x).1 → P ((addsN z f x).2 k) := by
  unfold addsN
  split
  · exact h2
  · exact addN_all hz h2 hx
theorem addsN_le {z : Nat} {f : Nat → Nat} {x : Nat} (hz : z ≤ 60) : (addsN z f x).1 ≤ 60 := by
  unfold addsN
  split
  · exact hz
  · exact addN_le
theorem addsN_bd {z : Nat} {f : Nat → Nat} {x : Nat} (h : Ibd z f) (hx : x < 10000000) : Ibd (addsN z f x).1 (addsN z f x).2 := ⟨addsN_le h.1, addsN_all (P := fun y => y < 10000000) h.1 h.2 hx⟩
/-- in the order of turns, then of units -/
def srt (z : Nat) (f : Nat → Nat) : Prop := ∀ k, k + 1 < z → kyN (f k) < kyN (f (k + 1))
theorem insN_srt {z : Nat} {f : Nat → Nat} {x : Nat} (h : srt z f) (hn : ¬ hasK z f (kyN x)) : srt (z + 1) (insN f (posN f (kyN x) z) x) := by
  intro k hk
  obtain ⟨h1, h2⟩ := posN_spec f (kyN x) z
  have hp := posN_le f (kyN x) z
  generalize posN f (kyN x) z = r at h1 h2 hp
  unfold insN
  by_cases e1 : k + 1 < r
  · rw [if_pos (by omega), if_pos e1]
    exact h k (by omega)
  · by_cases e2 : k + 1 = r
    · rw [if_pos (by omega), if_neg e1, if_pos e2]
      rcases h1 with h1 | h1
      · omega
      · have : r - 1 = k := by omega
        rw [this] at h1
        have hne : kyN (f k) ≠ kyN x := fun e => hn ⟨k, by omega, e⟩
        omega
    · by_cases e3 : k = r
      · rw [if_neg (by omega), if_pos e3, if_neg e1, if_neg e2]
        exact h2 k (by omega) (by omega)
      · rw [if_neg (by omega), if_neg e3, if_neg e1, if_neg e2]
        have := h (k - 1) (by omega)
        rw [show k - 1 + 1 = k by omega] at this
        exact this
theorem addsN_srt {z : Nat} {f : Nat → Nat} {x : Nat} (hz : z ≤ 60) (h : srt z f) : srt (addsN z f x).1 (addsN z f x).2 := by
  unfold addsN
  by_cases hn : hasK z f (kyN x)
  · rw [if_pos hn]; exact h
  · rw [if_neg hn]
    have hi := insN_srt h hn
    unfold addN
    by_cases e : z < 60
    · rw [if_pos e]; exact hi
    · rw [if_neg e]
      intro k hk
      dsimp only at hk ⊢
      exact hi (k + 1) (by omega)
theorem i_turn {x : Nat} (h : x < 10000000) : nI x / 100000 = nI (x / 100000) := pk_div (a := x) (d := 100000) (by omega) (by omega) (by omega)
theorem i_unit {x : Nat} (h : x < 10000000) : nI x - nI x / 1000 * 1000 = nI (x % 1000) := pk_rem (a := x) (d := 1000) (by omega) (by omega) (by omega)
theorem i_place {x : Nat} (h : x < 10000000) : (nI x - nI x / 100000 * 100000) / 1000 = nI (x / 1000 % 100) := by
  rw [show nI x - nI x / 100000 * 100000 = nI (x % 100000) from pk_rem (a := x) (d := 100000) (by omega) (by omega) (by omega)]
  rw [show nI (x % 100000) / 1000 = nI (x % 100000 / 1000) from pk_div (a := x % 100000) (d := 1000) (by omega) (by omega) (by omega)]
  congr 1
  omega
theorem i_cell {x : Nat} (h : x < 10000000) : nI x / 1000 - nI x / 1000 / 100 * 100 = nI (x / 1000 % 100) := by
  rw [show nI x / 1000 = nI (x / 1000) from pk_div (a := x) (d := 1000) (by omega) (by omega) (by omega)]
  exact pk_rem (a := x / 1000) (d := 100) (by omega) (by omega) (by omega)
theorem i_num (t c u : Nat) : ((100000 : Int32) * nI t + 1000 * nI c) + nI u = nI (100000 * t + 1000 * c + u) := by
  show (nI 100000 * nI t + nI 1000 * nI c) + nI u = _
  rw [pk_mul, pk_mul, nI_add, nI_add]
theorem s_isBehind {x t u : Nat} {post : Int32 → Prop} (hx : x < 10000000) (ht : t < 200) (hu : u < 1000) (h : post (if t * 1000 + u < kyN x then 1 else 0)) : V_X2_isBehind (nI x) (nI t) (nI u) post := by
  unfold V_X2_isBehind V_X6_turnOf V_X6_unitOf
  rw [i_turn hx, i_unit hx]
  unfold kyN at h
  have hm := Nat.mod_lt x (show 0 < 1000 by omega)
  refine pk_lt t (x / 100000) (fun z => ?_) (fun z => And.symm (pk_eq (x / 100000) t (fun e => pk_le (x % 1000) u (fun y => ?_) (fun y => ?_)) (fun e => ?_)))
  · rw [if_pos (by omega)] at h; exact h
  · rw [if_neg (by omega)] at h; exact h
  · rw [if_pos (by omega)] at h; exact h
  · rw [if_neg (by omega)] at h; exact h
theorem r_isBehind {x y : Nat} {post : Int32 → Prop} (hx : x < 10000000) (hy : y < 10000000) (h : post (if kyN y < kyN x then 1 else 0)) : V_X7_isBehind (nI x) (nI y) post := by
  unfold V_X7_isBehind V_X7_turnOf V_X7_unitIn
  rw [i_turn hx, i_unit hx, i_turn hy, i_unit hy]
  unfold kyN at h
  have hm := Nat.mod_lt x (show 0 < 1000 by omega)
  have hm2 := Nat.mod_lt y (show 0 < 1000 by omega)
  refine pk_lt (y / 100000) (x / 100000) (fun z => ?_) (fun z => And.symm (pk_eq (x / 100000) (y / 100000) (fun e => pk_le (x % 1000) (y % 1000) (fun y => ?_) (fun y => ?_)) (fun e => ?_)))
  · rw [if_pos (by omega)] at h; exact h
  · rw [if_neg (by omega)] at h; exact h
  · rw [if_pos (by omega)] at h; exact h
  · rw [if_neg (by omega)] at h; exact h
def CI (p z : Nat) (f : Nat → Nat) (g : St) : Prop := g.2 (10 + p) = nI z ∧ ∀ k, k < z → g.1 (29 + 2 * p) k = nI (f k)
section IX
variable {ix z : Nat} {f : Nat → Nat} {g g' : St}
theorem CI_kp {ks ss : List Nat} (h : CI ix z f g) (hk : kp ks ss g g') (h1 : 29 + 2 * ix ∉ ks) (h2 : 10 + ix ∉ ss) : CI ix z f g' := by
  unfold CI
  rw [hk.2 _ h2, hk.1 _ h1]
  exact h
theorem s_ixAt {k : Nat} {post : Int32 → St → Prop} (hI : CI ix z f g) (hb : Ibd z f) (hk : k < z) (h : post (nI (f k)) g) : V_X2_at ix (nI k) g post := by
  unfold V_X2_at
  have hz := hb.1
  rw [hI.1, nI_clamp (by omega), hI.2 k hk]
  exact wp_f (nI_pos (by omega)) (pk_le z k (fun c => absurd c (by omega)) (fun _ => ⟨vp_in_nI (by omega) (by omega), h⟩))
theorem s_dropFirst {m : Nat} {post : St → Prop} (hm : m ≤ 60) (hI : CI ix (m + 1) f g) (h : ∀ g', kp [29 + 2 * ix] [10 + ix] g g' → CI ix m (fun k => f (k + 1)) g' → post g') : V_X2_dropFirst ix g post := by
  unfold V_X2_dropFirst
  refine lp_for m (fun k y => y.1 = nI (k + 1) ∧ kp [29 + 2 * ix] [] g y.2 ∧ (∀ j, j < k → y.2.1 (29 + 2 * ix) j = nI (f (j + 1))) ∧ (∀ j, k ≤ j → j < m + 1 → y.2.1 (29 + 2 * ix) j = nI (f j))) ?_ ?_ ?_
  · rintro K k ⟨y1, g1⟩ hk ⟨e1, hkp, h1, h2⟩ hK
    dsimp only at e1 hkp h1 h2
    subst e1
    show J_X2_dropFirst_2 ix post K (nI (k + 1)) g1
    unfold J_X2_dropFirst_2
    rw [hkp.2 (10 + ix) (by simp), hI.1, nI_pred k, nI_clamp (by omega), nI_clamp (by omega)]
    refine pk_le (m + 1) (k + 1) (fun c => absurd c (by omega)) (fun _ => ⟨vp_in_nI (by omega) (by omega), vp_in_nI (by omega) (by omega), hK _ ⟨nI_up (k + 1), kp_sA hkp (by simp), fun j hj => ?_, fun j hj hj2 => ?_⟩⟩)
    · show (sA g1 (29 + 2 * ix) _).1 (29 + 2 * ix) j = _
      rw [sA_eq]
      unfold upd
      by_cases e : j = k
      · subst e; rw [if_pos rfl, h2 (j + 1) (by omega) (by omega)]
      · rw [if_neg e]; exact h1 j (by omega)
    · show (sA g1 (29 + 2 * ix) _).1 (29 + 2 * ix) j = _
      rw [sA_eq]
      unfold upd
      rw [if_neg (by omega)]
      exact h2 j (by omega) hj2
  · rintro K ⟨y1, g1⟩ ⟨e1, hkp, h1, h2⟩
    dsimp only at e1 hkp h1 h2
    subst e1
    show J_X2_dropFirst_2 ix post K (nI (m + 1)) g1
    unfold J_X2_dropFirst_2
    have hc : g1.2 (10 + ix) = nI (m + 1) := (hkp.2 (10 + ix) (by simp)).trans hI.1
    rw [hc, nI_pred]
    refine pk_le (m + 1) (m + 1) (fun _ => h _ ?_ ?_) (fun c => absurd c (by omega))
    · exact kp_sS (kp_up hkp (fun _ z => z) (fun _ z => absurd z (by simp))) (by simp)
    · exact ⟨sS_eq _ _ _, fun k hk => h1 k hk⟩
  · exact ⟨rfl, kp_rf, fun j hj => absurd hj (by omega), fun j _ hj => hI.2 j hj⟩
theorem s_addEnd {t c u x r : Nat} {y1 y2 y3 : Int32} {post : St → Prop} (hx : x = 100000 * t + 1000 * c + u) (hr : r ≤ z) (hz : z ≤ 60) {g1 : St} (hkp : kp [29 + 2 * ix] [] g g1) (hc : g.2 (10 + ix) = nI z)
    (h1 : ∀ k, k < r → g1.1 (29 + 2 * ix) k = nI (f k)) (h2 : ∀ k, r < k → k ≤ z → g1.1 (29 + 2 * ix) k = nI (f (k - 1)))
    (h : ∀ g', kp [29 + 2 * ix] [10 + ix] g g' → CI ix (if z < 60 then z + 1 else 60) (if z < 60 then insN f r x else fun k => insN f r x (k + 1)) g' → post g') : J_X2_add_60 ix y1 y2 y3 post (nI t) (nI c) (nI u) (nI r) g1 := by
  unfold J_X2_add_60 V_X6_numberFor
  rw [i_num, ← hx]
  refine ⟨vp_in_nI (by omega) (by omega), ?_⟩
  rw [nI_clamp (by omega), sS_eq, sA_2, hkp.2 (10 + ix) (by simp), hc, nI_up]
  have hkp2 : kp [29 + 2 * ix] [10 + ix] g (sS (sA g1 (29 + 2 * ix) (upd (g1.1 (29 + 2 * ix)) r (nI x))) (10 + ix) (nI (z + 1))) := kp_sS (kp_sA (kp_up hkp (fun _ z => z) (fun _ z => absurd z (by simp))) (by simp)) (by simp)
  have hci : CI ix (z + 1) (insN f r x) (sS (sA g1 (29 + 2 * ix) (upd (g1.1 (29 + 2 * ix)) r (nI x))) (10 + ix) (nI (z + 1))) := by
    refine ⟨sS_eq _ _ _, fun k hk => ?_⟩
    rw [sS_1, sA_eq]
    unfold upd insN
    by_cases e : k = r
    · rw [if_pos e, if_neg (by omega), if_pos e]
    · rw [if_neg e]
      by_cases e2 : k < r
      · rw [if_pos e2]; exact h1 k e2
      · rw [if_neg e2, if_neg e]; exact h2 k (by omega) (by omega)
  refine pk_le (z + 1) 60 (fun q => ?_) (fun q => ?_)
  · rw [if_pos (by omega), if_pos (by omega)] at h
    exact h _ hkp2 hci
  · have e : z = 60 := by omega
    subst e
    rw [if_neg (by omega), if_neg (by omega)] at h
    exact s_dropFirst (by omega) hci (fun g' k' c' => h g' (kp_tr hkp2 k') c')
theorem s_add {t c u x : Nat} {post : St → Prop} (hx : x = 100000 * t + 1000 * c + u) (ht : t < 100) (hcu : 1000 * c + u < 100000) (hu : u < 1000) (hI : CI ix z f g) (hb : Ibd z f)
    (h : ∀ g', kp [29 + 2 * ix] [10 + ix] g g' → CI ix (addN z f x).1 (addN z f x).2 g' → post g') : V_X2_add ix (nI t) (nI c) (nI u) g post := by
  have hz := hb.1
  have hk : kyN x = t * 1000 + u := by unfold kyN; omega
  have h : ∀ g', kp [29 + 2 * ix] [10 + ix] g g' → CI ix (if z < 60 then z + 1 else 60) (if z < 60 then insN f (posN f (kyN x) z) x else fun k => insN f (posN f (kyN x) z) x (k + 1)) g' → post g' := by
    intro g' a b
    refine h g' a ?_
    unfold addN
    by_cases e : z < 60
    · rw [if_pos e, if_pos e] at b; rw [if_pos e]; exact b
    · rw [if_neg e, if_neg e] at b; rw [if_neg e]; exact b
  unfold V_X2_add
  rw [hI.1]
  refine pk_le z 60 (fun _ => ?_) (fun q => absurd q (by omega))
  refine lp_for z (fun i y => y.1 = nI t ∧ y.2.1 = nI c ∧ y.2.2.1 = nI u ∧ y.2.2.2.1 = nI (z - i) ∧ kp [29 + 2 * ix] [] g y.2.2.2.2 ∧ (∀ k, k < z - i → y.2.2.2.2.1 (29 + 2 * ix) k = nI (f k)) ∧ (∀ k, z - i < k → k ≤ z → y.2.2.2.2.1 (29 + 2 * ix) k = nI (f (k - 1))) ∧ posN f (kyN x) z = posN f (kyN x) (z - i)) ?_ ?_ ?_
  · rintro K i ⟨y1, y2, y3, y4, g1⟩ hi ⟨e1, e2, e3, e4, hkp, h1, h2, h3⟩ hK
    dsimp only at e1 e2 e3 e4 hkp h1 h2
    subst e1 e2 e3 e4
    show J_X2_add_16 ix (nI t) (nI c) (nI u) post K (nI t) (nI c) (nI u) (nI (z - i)) g1
    unfold J_X2_add_16
    have er : z - i = (z - (i + 1)) + 1 := by omega
    have hr1 : z - (i + 1) < z := by omega
    rw [er] at h1 h2 h3 ⊢
    generalize hr : z - (i + 1) = r at h1 h2 h3 hr1 hK ⊢
    rw [nI_pred, nI_clamp (by omega), nI_clamp (by omega), h1 r (by omega)]
    have hs : posN f (kyN x) (r + 1) = if kyN x < kyN (f r) then posN f (kyN x) r else r + 1 := rfl
    refine pk_le (r + 1) 0 (fun q => absurd q (by omega)) (fun _ => ⟨vp_in_nI (by omega) (by omega), s_isBehind (hb.2 r hr1) (by omega) hu ?_⟩)
    rw [← hk]
    by_cases hbh : kyN x < kyN (f r)
    · rw [if_pos hbh]
      rw [if_pos hbh] at hs
      refine wp_f (by decide) ⟨vp_in_nI (by omega) (by omega), vp_in_nI (by omega) (by omega), hK _ ⟨rfl, rfl, rfl, ?_, kp_sA hkp (by simp), fun k hk => ?_, fun k hk hk2 => ?_, ?_⟩⟩
      · exact pk_m1 r
      · show (sA g1 (29 + 2 * ix) _).1 (29 + 2 * ix) k = _
        rw [sA_eq]
        unfold upd
        rw [if_neg (by omega)]
        exact h1 k (by omega)
      · show (sA g1 (29 + 2 * ix) _).1 (29 + 2 * ix) k = _
        rw [sA_eq]
        unfold upd
        by_cases e : k = r + 1
        · subst e; rw [if_pos rfl]; rfl
        · rw [if_neg e]; exact h2 k (by omega) hk2
      · exact h3.trans hs
    · rw [if_neg hbh]
      rw [if_neg hbh] at hs
      have hp : posN f (kyN x) z = r + 1 := h3.trans hs
      rw [hp] at h
      exact wp_t rfl (s_addEnd hx (by omega) hz hkp hI.1 h1 h2 h)
  · rintro K ⟨y1, y2, y3, y4, g1⟩ ⟨e1, e2, e3, e4, hkp, h1, h2, h3⟩
    dsimp only at e1 e2 e3 e4 hkp h1 h2
    subst e1 e2 e3 e4
    show J_X2_add_16 ix (nI t) (nI c) (nI u) post K (nI t) (nI c) (nI u) (nI (z - z)) g1
    unfold J_X2_add_16
    rw [Nat.sub_self] at h1 h2 h3 ⊢
    have hp : posN f (kyN x) z = 0 := h3
    rw [hp] at h
    exact pk_le 0 0 (fun _ => s_addEnd hx (by omega) hz hkp hI.1 h1 h2 h) (fun q => absurd q (by omega))
  · exact ⟨rfl, rfl, rfl, rfl, kp_rf, fun k hk => hI.2 k hk, fun k a b => absurd b (by omega), rfl⟩
theorem s_has {t u : Nat} {post : Int32 → St → Prop} (ht : t < 200) (hu : u < 1000) (hI : CI ix z f g) (hb : Ibd z f) (h1 : hasK z f (t * 1000 + u) → post 1 g) (h0 : ¬ hasK z f (t * 1000 + u) → post 0 g) : V_X2_has ix (nI t) (nI u) g post := by
  unfold V_X2_has
  have hz := hb.1
  refine lp_for z (fun k y => y = (nI t, nI u, nI k, g) ∧ ∀ j, j < k → kyN (f j) ≠ t * 1000 + u) ?_ ?_ ⟨rfl, fun j hj => absurd hj (by omega)⟩
  · rintro K k _ hk ⟨rfl, hno⟩ hK
    show J_X2_has_2 ix (nI t) (nI u) post K (nI t) (nI u) (nI k) g
    unfold J_X2_has_2 J_X2_has_38 V_X6_turnOf V_X6_unitOf
    have hf := hb.2 k hk
    have hm := Nat.mod_lt (f k) (show 0 < 1000 by omega)
    rw [hI.1, nI_clamp (by omega), hI.2 k hk, i_turn hf, i_unit hf]
    have nxt : kyN (f k) ≠ t * 1000 + u → K (nI t, nI u, nI k + 1, g) := fun hne => hK _ ⟨by rw [nI_up], fun j hj => by
      by_cases e : j = k
      · rw [e]; exact hne
      · exact hno j (by omega)⟩
    refine pk_le z k (fun c => absurd c (by omega)) (fun _ => ⟨vp_in_nI (by omega) (by omega), And.symm (pk_eq (f k / 100000) t (fun e => ⟨vp_in_nI (by omega) (by omega), And.symm (pk_eq (f k % 1000) u (fun e2 => h1 ⟨k, hk, ?_⟩) (fun e2 => nxt ?_))⟩) (fun e => nxt ?_))⟩)
    · unfold kyN; omega
    · unfold kyN; omega
    · unfold kyN; omega
  · rintro K _ ⟨rfl, hno⟩
    show J_X2_has_2 ix (nI t) (nI u) post K (nI t) (nI u) (nI z) g
    unfold J_X2_has_2
    rw [hI.1]
    exact pk_le z z (fun _ => h0 (fun ⟨j, hj, e⟩ => hno j hj e)) (fun c => absurd c (by omega))
end IX
