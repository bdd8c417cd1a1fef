/-! PART 61: the reference's index -/
def MI (p z : Nat) (f : Nat → Nat) (g : St) : Prop := g.1 10 p = nI z ∧ ∀ k, k < z → g.1 9 (61 * p + k) = nI (f k)
/-- only the index of p has changed -/
def kx (p : Nat) (g g' : St) : Prop := kp [9, 10] [] g g' ∧ (∀ j, j ≠ p → g'.1 10 j = g.1 10 j) ∧ (∀ j : Nat, j < 61 * p ∨ 61 * p + 61 ≤ j → g'.1 9 j = g.1 9 j)
theorem kx_rf {p : Nat} {g : St} : kx p g g := ⟨kp_rf, fun _ _ => rfl, fun _ _ => rfl⟩
theorem kx_tr {p : Nat} {g g' g2 : St} (h1 : kx p g g') (h2 : kx p g' g2) : kx p g g2 := ⟨kp_tr h1.1 h2.1, fun j hj => (h2.2.1 j hj).trans (h1.2.1 j hj), fun j hj => (h2.2.2 j hj).trans (h1.2.2 j hj)⟩
theorem kx_9 {p k : Nat} {v : Int32} {g g' : St} (h : kx p g g') (hk : k < 61) : kx p g (sA g' 9 (upd (g'.1 9) (61 * p + k) v)) := by
  refine ⟨kp_sA h.1 (by simp), fun j hj => ?_, fun j hj => ?_⟩
  · rw [sA_ne _ _ (by decide)]; exact h.2.1 j hj
  · rw [sA_eq]
    unfold upd
    rw [if_neg (by omega)]
    exact h.2.2 j hj
theorem kx_10 {p : Nat} {v : Int32} {g g' : St} (h : kx p g g') : kx p g (sA g' 10 (upd (g'.1 10) p v)) := by
  refine ⟨kp_sA h.1 (by simp), fun j hj => ?_, fun j hj => ?_⟩
  · rw [sA_eq]
    unfold upd
    rw [if_neg hj]
    exact h.2.1 j hj
  · rw [sA_ne _ _ (by decide)]; exact h.2.2 j hj
theorem MI_kx {p q z : Nat} {f : Nat → Nat} {g g' : St} (h : MI q z f g) (hk : kx p g g') (hpq : q ≠ p) (hz : z ≤ 60) : MI q z f g' := by
  refine ⟨(hk.2.1 q hpq).trans h.1, fun k hk2 => (hk.2.2 _ ?_).trans (h.2 k hk2)⟩
  rcases Nat.lt_or_gt_of_ne hpq with e | e
  · left
    have : 61 * (q + 1) ≤ 61 * p := Nat.mul_le_mul_left 61 e
    omega
  · right
    have : 61 * (p + 1) ≤ 61 * q := Nat.mul_le_mul_left 61 e
    omega
theorem MI_kp {p z : Nat} {f : Nat → Nat} {ks ss : List Nat} {g g' : St} (h : MI p z f g) (hk : kp ks ss g g') (h1 : 9 ∉ ks) (h2 : 10 ∉ ks) : MI p z f g' := by
  unfold MI
  rw [hk.1 _ h1, hk.1 _ h2]
  exact h
section RX
variable {p z : Nat} {f : Nat → Nat} {g g' : St}
theorem r_ofs (p k : Nat) : nI (61 * p) + nI k = nI (61 * p + k) := nI_add _ _
theorem r_shift {x1 x2 : Int32} {post : St → Prop} (hp : p < 4) {g1 : St} (hkx : kx p g g1) (hs : g1.1 10 p = nI 60) (hf : ∀ k : Nat, k < 61 → g1.1 9 (61 * p + k) = nI (f k))
    (h : ∀ g', kx p g g' → MI p 60 (fun k => f (k + 1)) g' → post g') : lpP (fun K166 (z : Int32 × Int32 × St) => J_X7_adds_166 x1 x2 post K166 z.1 z.2.1 z.2.2) (nI (61 * p), 0, g1) := by
  refine lp_for 60 (fun k y => y.1 = nI (61 * p) ∧ y.2.1 = nI k ∧ kx p g y.2.2 ∧ y.2.2.1 10 p = nI 60 ∧ (∀ j, j < k → y.2.2.1 9 (61 * p + j) = nI (f (j + 1))) ∧ (∀ j, k ≤ j → j < 61 → y.2.2.1 9 (61 * p + j) = nI (f j))) ?_ ?_ ?_
  · rintro K k ⟨y1, y2, g2⟩ hk ⟨e1, e2, hkp, h10, h1, h2⟩ hK
    dsimp only at e1 e2 hkp h10 h1 h2
    subst e1 e2
    show J_X7_adds_166 x1 x2 post K (nI (61 * p)) (nI k) g2
    unfold J_X7_adds_166
    rw [r_ofs, nI_up, nI_clamp (by omega), nI_clamp (by omega), show 61 * p + k + 1 = 61 * p + (k + 1) by omega, h2 (k + 1) (by omega) (by omega)]
    refine pk_le 60 k (fun c => absurd c (by omega)) (fun _ => ⟨vp_in_nI (by omega) (by omega), vp_in_nI (by omega) (by omega), hK _ ⟨rfl, nI_up k, kx_9 hkp (by omega), ?_, fun j hj => ?_, fun j hj hj2 => ?_⟩⟩)
    · show (sA g2 9 _).1 10 p = _
      rw [sA_ne _ _ (by decide)]; exact h10
    · show (sA g2 9 _).1 9 (61 * p + j) = _
      rw [sA_eq]
      unfold upd
      by_cases e : j = k
      · subst e; rw [if_pos rfl]
      · rw [if_neg (by omega)]; exact h1 j (by omega)
    · show (sA g2 9 _).1 9 (61 * p + j) = _
      rw [sA_eq]
      unfold upd
      rw [if_neg (by omega)]
      exact h2 j (by omega) hj2
  · rintro K ⟨y1, y2, g2⟩ ⟨e1, e2, hkp, h10, h1, h2⟩
    dsimp only at e1 e2 hkp h10 h1 h2
    subst e1 e2
    show J_X7_adds_166 x1 x2 post K (nI (61 * p)) (nI 60) g2
    unfold J_X7_adds_166
    exact pk_le 60 60 (fun _ => h g2 hkp ⟨h10, h1⟩) (fun c => absurd c (by omega))
  · exact ⟨rfl, rfl, hkx, hs, fun j hj => absurd hj (by omega), fun j _ hj => hf j hj⟩
theorem r_addEnd {x r : Nat} {x1 x2 : Int32} {post : St → Prop} (hp : p < 4) (hr : r ≤ z) (hz : z ≤ 60) {g1 : St} (hkp : kx p g g1) (hc : g1.1 10 p = nI z)
    (h1 : ∀ k, k < r → g1.1 9 (61 * p + k) = nI (f k)) (h2 : ∀ k, r < k → k ≤ z → g1.1 9 (61 * p + k) = nI (f (k - 1)))
    (h : ∀ g', kx p g g' → MI p (if z < 60 then z + 1 else 60) (if z < 60 then insN f r x else fun k => insN f r x (k + 1)) g' → post g') : J_X7_adds_121 x1 x2 post (nI p) (nI x) (nI (61 * p)) (nI r) g1 := by
  unfold J_X7_adds_121
  have ip : vp_in (nI p) 4 := vp_in_nI hp (by omega)
  refine ⟨by rw [r_ofs]; exact vp_in_nI (by omega) (by omega), ip, ip, ip, ?_⟩
  rw [r_ofs, nI_clamp (n := 61 * p + r) (by omega), nI_clamp (n := p) (by omega)]
  have hq : ∀ k, k ≤ z → (sA g1 9 (upd (g1.1 9) (61 * p + r) (nI x))).1 9 (61 * p + k) = nI (insN f r x k) := fun k hk => by
    rw [sA_eq]
    unfold upd insN
    by_cases e : k = r
    · rw [if_pos (by omega), if_neg (by omega), if_pos e]
    · rw [if_neg (by omega)]
      by_cases e2 : k < r
      · rw [if_pos e2]; exact h1 k e2
      · rw [if_neg e2, if_neg e]; exact h2 k (by omega) hk
  have k1 : kx p g (sA g1 9 (upd (g1.1 9) (61 * p + r) (nI x))) := kx_9 hkp (by omega)
  have c1 : (sA g1 9 (upd (g1.1 9) (61 * p + r) (nI x))).1 10 p = nI z := by rw [sA_ne _ _ (by decide)]; exact hc
  generalize sA g1 9 (upd (g1.1 9) (61 * p + r) (nI x)) = g2 at hq k1 c1 ⊢
  rw [c1, nI_up]
  have k2 : kx p g (sA g2 10 (upd (g2.1 10) p (nI (z + 1)))) := kx_10 k1
  have c2 : (sA g2 10 (upd (g2.1 10) p (nI (z + 1)))).1 10 p = nI (z + 1) := by rw [sA_eq]; exact pk_us
  have q2 : ∀ k, k ≤ z → (sA g2 10 (upd (g2.1 10) p (nI (z + 1)))).1 9 (61 * p + k) = nI (insN f r x k) := fun k hk => by rw [sA_ne _ _ (by decide)]; exact hq k hk
  generalize sA g2 10 (upd (g2.1 10) p (nI (z + 1))) = g3 at k2 c2 q2 ⊢
  rw [c2]
  refine pk_lt 60 (z + 1) (fun q => ?_) (fun q => ?_)
  · have e : z = 60 := by omega
    subst e
    rw [if_neg (by omega), if_neg (by omega)] at h
    rw [nI_pred]
    refine ⟨ip, ip, r_shift (f := insN f r x) hp (kx_10 k2) (by rw [sA_eq]; exact pk_us) (fun k hk => ?_) h⟩
    rw [sA_ne _ _ (by decide)]
    exact q2 k (by omega)
  · rw [if_pos (by omega), if_pos (by omega)] at h
    exact h _ k2 ⟨c2, fun k hk => q2 k (by omega)⟩
theorem r_adds {x : Nat} {post : St → Prop} (hp : p < 4) (hx : x < 10000000) (hI : MI p z f g) (hb : Ibd z f)
    (h : ∀ g', kx p g g' → MI p (addsN z f x).1 (addsN z f x).2 g' → post g') : V_X7_adds (nI p) (nI x) g post := by
  have hz := hb.1
  have ip : vp_in (nI p) 4 := vp_in_nI hp (by omega)
  unfold V_X7_adds
  rw [show (61 : Int32) * nI p = nI (61 * p) from pk_mul 61 p, nI_clamp (by omega), hI.1]
  refine ⟨ip, ?_⟩
  refine lp_for z (fun k y => y = (nI p, nI x, nI (61 * p), nI z, nI k, g) ∧ ∀ j, j < k → kyN (f j) ≠ kyN x) ?_ ?_ ⟨rfl, fun j hj => absurd hj (by omega)⟩
  · rintro K k _ hk ⟨rfl, hno⟩ hK
    show J_X7_adds_16 (nI p) (nI x) post K (nI p) (nI x) (nI (61 * p)) (nI z) (nI k) g
    unfold J_X7_adds_16 J_X7_adds_66 V_X7_turnOf V_X7_unitIn
    have hf := hb.2 k hk
    have hm := Nat.mod_lt (f k) (show 0 < 1000 by omega)
    have hm2 := Nat.mod_lt x (show 0 < 1000 by omega)
    rw [r_ofs, nI_clamp (n := p) (by omega), nI_clamp (n := 61 * p + k) (by omega), hI.1, hI.2 k hk, i_turn hf, i_unit hf, i_turn hx, i_unit hx]
    have nxt : kyN (f k) ≠ kyN x → K (nI p, nI x, nI (61 * p), nI z, nI k + 1, g) := fun hne => hK _ ⟨by rw [nI_up], fun j hj => by
      by_cases e : j = k
      · rw [e]; exact hne
      · exact hno j (by omega)⟩
    have found : kyN (f k) = kyN x → post g := fun e => by
      have ea : addsN z f x = (z, f) := if_pos ⟨k, hk, e⟩
      rw [ea] at h
      exact h g kx_rf hI
    have iv : vp_in (nI (61 * p + k)) 244 := vp_in_nI (by omega) (by omega)
    refine ⟨ip, pk_le z k (fun c => absurd c (by omega)) (fun _ => ⟨iv, And.symm (pk_eq (f k / 100000) (x / 100000) (fun e => ⟨iv, And.symm (pk_eq (f k % 1000) (x % 1000) (fun e2 => found ?_) (fun e2 => nxt ?_))⟩) (fun e => nxt ?_))⟩)⟩
    · unfold kyN; omega
    · unfold kyN; omega
    · unfold kyN; omega
  · rintro K _ ⟨rfl, hno⟩
    show J_X7_adds_16 (nI p) (nI x) post K (nI p) (nI x) (nI (61 * p)) (nI z) (nI z) g
    unfold J_X7_adds_16
    rw [nI_clamp (n := p) (by omega), hI.1]
    refine ⟨ip, pk_le z z (fun _ => ?_) (fun c => absurd c (by omega))⟩
    have ea : addsN z f x = addN z f x := if_neg (fun ⟨j, hj, e⟩ => hno j hj e)
    rw [ea] at h
    have h : ∀ g', kx p g g' → MI p (if z < 60 then z + 1 else 60) (if z < 60 then insN f (posN f (kyN x) z) x else fun k => insN f (posN f (kyN x) z) x (k + 1)) g' → post g' := by
      intro g' a b
      refine h g' a ?_
      unfold addN
      by_cases e : z < 60
      · rw [if_pos e, if_pos e] at b; rw [if_pos e]; exact b
      · rw [if_neg e, if_neg e] at b; rw [if_neg e]; exact b
    refine lp_for z (fun i y => y.1 = nI p ∧ y.2.1 = nI x ∧ y.2.2.1 = nI (61 * p) ∧ y.2.2.2.1 = nI (z - i) ∧ kx p g y.2.2.2.2 ∧ y.2.2.2.2.1 10 p = nI z ∧ (∀ k, k < z - i → y.2.2.2.2.1 9 (61 * p + k) = nI (f k)) ∧ (∀ k, z - i < k → k ≤ z → y.2.2.2.2.1 9 (61 * p + k) = nI (f (k - 1))) ∧ posN f (kyN x) z = posN f (kyN x) (z - i)) ?_ ?_ ?_
    · rintro K2 i ⟨y1, y2, y3, y4, g1⟩ hi ⟨e1, e2, e3, e4, hkp, hc, h1, h2, h3⟩ hK
      dsimp only at e1 e2 e3 e4 hkp hc h1 h2
      subst e1 e2 e3 e4
      show J_X7_adds_72 (nI p) (nI x) post K2 (nI p) (nI x) (nI (61 * p)) (nI (z - i)) g1
      unfold J_X7_adds_72
      have er : z - i = (z - (i + 1)) + 1 := by omega
      have hr1 : z - (i + 1) < z := by omega
      rw [er] at h1 h2 h3 ⊢
      generalize hr : z - (i + 1) = r at h1 h2 h3 hr1 hK ⊢
      rw [r_ofs, show 61 * p + (r + 1) = 61 * p + r + 1 by omega, nI_pred, nI_clamp (n := 61 * p + r) (by omega), nI_clamp (n := 61 * p + r + 1) (by omega), h1 r (by omega)]
      have hs : posN f (kyN x) (r + 1) = if kyN x < kyN (f r) then posN f (kyN x) r else r + 1 := rfl
      refine pk_le (r + 1) 0 (fun q => absurd q (by omega)) (fun _ => ⟨vp_in_nI (by omega) (by omega), r_isBehind (hb.2 r hr1) hx ?_⟩)
      by_cases hbh : kyN x < kyN (f r)
      · rw [if_pos hbh]
        rw [if_pos hbh] at hs
        refine wp_f (by decide) ⟨vp_in_nI (by omega) (by omega), vp_in_nI (by omega) (by omega), hK _ ⟨rfl, rfl, rfl, ?_, ?_, ?_, fun k hk => ?_, fun k hk hk2 => ?_, ?_⟩⟩
        · exact pk_m1 r
        · exact kx_9 (k := r + 1) hkp (by omega)
        · show (sA g1 9 _).1 10 p = _
          rw [sA_ne _ _ (by decide)]; exact hc
        · show (sA g1 9 _).1 9 (61 * p + k) = _
          rw [sA_eq]
          unfold upd
          rw [if_neg (by omega)]
          exact h1 k (by omega)
        · show (sA g1 9 _).1 9 (61 * p + k) = _
          rw [sA_eq]
          unfold upd
          by_cases e : k = r + 1
          · subst e; rw [if_pos (by omega)]; rfl
          · rw [if_neg (by omega)]; exact h2 k (by omega) hk2
        · exact h3.trans hs
      · rw [if_neg hbh]
        rw [if_neg hbh] at hs
        have hp2 : posN f (kyN x) z = r + 1 := h3.trans hs
        rw [hp2] at h
        exact wp_t rfl (r_addEnd hp (by omega) hz hkp hc h1 h2 h)
    · rintro K2 ⟨y1, y2, y3, y4, g1⟩ ⟨e1, e2, e3, e4, hkp, hc, h1, h2, h3⟩
      dsimp only at e1 e2 e3 e4 hkp hc h1 h2
      subst e1 e2 e3 e4
      show J_X7_adds_72 (nI p) (nI x) post K2 (nI p) (nI x) (nI (61 * p)) (nI (z - z)) g1
      unfold J_X7_adds_72
      rw [Nat.sub_self] at h1 h2 h3 ⊢
      have hp2 : posN f (kyN x) z = 0 := h3
      rw [hp2] at h
      exact pk_le 0 0 (fun _ => r_addEnd hp (by omega) hz hkp hc h1 h2 h) (fun q => absurd q (by omega))
    · exact ⟨rfl, rfl, rfl, rfl, kx_rf, hI.1, fun k hk => hI.2 k hk, fun k a b => absurd b (by omega), rfl⟩
end RX
