/-! PART 76: treaties, repairs, loads -/
def pqE (p q i j : Nat) : Prop := (i = p ∧ j = q) ∨ (i = q ∧ j = p)
def stT (tr : Nat → Nat → Bool) (p q : Nat) (b : Bool) : Nat → Nat → Bool := fun i j => if (i = p ∧ j = q) ∨ (i = q ∧ j = p) then b else tr i j
def stE (en tr : Nat → Nat → Bool) (p q : Nat) (b : Bool) : Nat → Nat → Bool := fun i j => if (i = p ∧ j = q) ∨ (i = q ∧ j = p) then (en i j || (tr p q && !b)) else en i j
theorem stE_no {en tr : Nat → Nat → Bool} {p q : Nat} {b : Bool} (h : (tr p q && !b) = false) : stE en tr p q b = en := by
  funext i j
  unfold stE
  rw [h]
  split
  · rw [Bool.or_false]
  · rfl
theorem stT_no {tr : Nat → Nat → Bool} {p q : Nat} {b : Bool} (h1 : tr p q = b) (h2 : tr q p = b) : stT tr p q b = tr := by
  funext i j
  unfold stT
  split
  · rename_i h
    rcases h with ⟨e1, e2⟩ | ⟨e1, e2⟩
    · rw [e1, e2, h1]
    · rw [e1, e2, h2]
  · rfl
section TR
variable {g mu g' : St} {tr bk al en : Nat → Nat → Bool} {F : Nat → Nat × (Nat → Nat)}
theorem CT_set {p q : Nat} (h : CT tr g) (hp : p < 4) (hq : q < 4) (hne : p ≠ q) : CT (stT tr p q true) (sA (sA g 26 (upd (g.1 26) p ((g.1 26 p) ||| ((1 : Int32) <<< (nI q &&& 31))))) 26 (upd ((sA g 26 (upd (g.1 26) p ((g.1 26 p) ||| ((1 : Int32) <<< (nI q &&& 31))))).1 26) q (((sA g 26 (upd (g.1 26) p ((g.1 26 p) ||| ((1 : Int32) <<< (nI q &&& 31))))).1 26 q) ||| ((1 : Int32) <<< (nI p &&& 31))))) := by
  intro i hi j hj
  rw [sA_eq, sA_eq]
  unfold upd stT
  by_cases e1 : i = q
  · have e2 : i ≠ p := by omega
    rw [if_pos e1, if_neg (show ¬ q = p by omega), bt_set _ (by omega) hj, h q hq j hj]
    by_cases ej : j = p
    · rw [ej, decide_eq_true rfl, Bool.or_true, if_pos (Or.inr ⟨e1, rfl⟩), decide_eq_true hp]; rfl
    · rw [decide_eq_false ej, Bool.or_false, if_neg (by omega), e1]
  · rw [if_neg e1]
    by_cases e2 : i = p
    · rw [if_pos e2, bt_set _ (by omega) hj, h p hp j hj]
      by_cases ej : j = q
      · rw [ej, decide_eq_true rfl, Bool.or_true, if_pos (Or.inl ⟨e2, rfl⟩), decide_eq_true hq]; rfl
      · rw [decide_eq_false ej, Bool.or_false, if_neg (by omega), e2]
    · rw [if_neg e2, h i hi j hj, if_neg (by omega)]
theorem CT_clr {p q : Nat} (h : CT tr g) (hp : p < 4) (hq : q < 4) (hne : p ≠ q) : CT (stT tr p q false) (sA (sA g 26 (upd (g.1 26) p ((g.1 26 p) &&& (((1 : Int32) <<< (nI q &&& 31)) ^^^ (-1))))) 26 (upd ((sA g 26 (upd (g.1 26) p ((g.1 26 p) &&& (((1 : Int32) <<< (nI q &&& 31)) ^^^ (-1))))).1 26) q (((sA g 26 (upd (g.1 26) p ((g.1 26 p) &&& (((1 : Int32) <<< (nI q &&& 31)) ^^^ (-1))))).1 26 q) &&& (((1 : Int32) <<< (nI p &&& 31)) ^^^ (-1))))) := by
  intro i hi j hj
  rw [sA_eq, sA_eq]
  unfold upd stT
  by_cases e1 : i = q
  · have e2 : i ≠ p := by omega
    rw [if_pos e1, if_neg (show ¬ q = p by omega), bt_clr _ (by omega) hj, h q hq j hj]
    by_cases ej : j = p
    · rw [ej, decide_eq_true (p := p = p) rfl, if_pos (Or.inr ⟨e1, rfl⟩), Bool.and_false]; exact Bool.and_false _
    · rw [decide_eq_false ej, if_neg (by omega), e1]; exact Bool.and_true _
  · rw [if_neg e1]
    by_cases e2 : i = p
    · rw [if_pos e2, bt_clr _ (by omega) hj, h p hp j hj]
      by_cases ej : j = q
      · rw [ej, decide_eq_true (p := q = q) rfl, if_pos (Or.inl ⟨e2, rfl⟩), Bool.and_false]; exact Bool.and_false _
      · rw [decide_eq_false ej, if_neg (by omega), e2]; exact Bool.and_true _
    · rw [if_neg e2, h i hi j hj, if_neg (by omega)]
/-- one side of a treaty that ends -/
theorem s_end1 {p q : Nat} {post : St → Prop} {en' : Nat → Nat → Bool} (hv : CSv F bk al en g) (hp : p < 4) (hq : q < 4) (e1 : en' p q = true) (e2 : ∀ i j, ¬ (i = p ∧ j = q) → en' i j = en i j)
    (h : ∀ g', kp [] [32 + p] g g' → CSv F bk al en' g' → post g') : V_X0_endTreaty p (nI q) g post := by
  obtain ⟨h1, h2⟩ := hv p hp
  refine s_endTreaty h1 hq (fun ha => h _ (kp_sS kp_rf (by simp)) ?_) (fun ha => h _ kp_rf ?_)
  · intro r hr
    have k9 : kp [] [32 + p] g (sS g (32 + p) 1) := kp_sS kp_rf (by simp)
    by_cases e : r = p
    · subst e
      refine ⟨⟨?_, fun i hi => ?_, fun i hi => ?_, ?_, h1.2.2.2.2.1, h1.2.2.2.2.2⟩, CPa_kp h2 k9 (by simp)⟩
      · rw [sS_ne _ _ (by omega)]; exact h1.1
      · rw [sS_ne _ _ (by omega)]; exact h1.2.1 i hi
      · rw [sS_ne _ _ (by omega)]; exact h1.2.2.1 i hi
      · rw [sS_eq]
        exact ⟨fun z => absurd z (by decide), fun z => by have := z q hq ha; rw [e1] at this; cases this⟩
    · obtain ⟨h3, h4⟩ := hv r hr
      have h5 := CSq_kp h3 k9 (by simp) (by simp) (by simp <;> omega) (by simp <;> omega) (by simp <;> omega) (by simp <;> omega)
      refine ⟨⟨h5.1, h5.2.1, h5.2.2.1, ?_, h5.2.2.2.2.1, h5.2.2.2.2.2⟩, CPa_kp h4 k9 (by simp)⟩
      rw [h5.2.2.2.1]
      exact ⟨fun z i hi ha2 => by rw [e2 r i (fun y => e y.1)]; exact z i hi ha2, fun z i hi ha2 => by rw [← e2 r i (fun y => e y.1)]; exact z i hi ha2⟩
  · intro r hr
    obtain ⟨h3, h4⟩ := hv r hr
    refine ⟨⟨h3.1, h3.2.1, h3.2.2.1, ?_, h3.2.2.2.2.1, h3.2.2.2.2.2⟩, h4⟩
    rw [h3.2.2.2.1]
    have ne : ∀ i, al r i = true → ¬ (r = p ∧ i = q) := fun i hi y => by rw [y.1, y.2, ha] at hi; cases hi
    exact ⟨fun z i hi ha2 => by rw [e2 r i (ne i ha2)]; exact z i hi ha2, fun z i hi ha2 => by rw [← e2 r i (ne i ha2)]; exact z i hi ha2⟩
theorem s_setTreaty {p q : Nat} {b : Bool} {post : Int32 → St → Prop} {px : String → St → Prop} (ht : CT tr g) (hv : CSv F bk al en g) (hp : p < 4) (hq : q < 4) (hne : p ≠ q) (hsy : tr q p = tr p q)
    (h : ∀ g', kp [26] [32, 33, 34, 35] g g' → CT (stT tr p q b) g' → CSv F bk al (stE en tr p q b) g' → post (nI (bN (tr p q))) g') : V_X6_setTreaty (nI p) (nI q) (nI (bN b)) g post px := by
  have ip : vp_in (nI p) 4 := vp_in_nI hp (by omega)
  have iq : vp_in (nI q) 4 := vp_in_nI hq (by omega)
  have nar : narrow .boolean (.int (nI (bN (tr p q)))) = .int (nI (bN (tr p q))) := by cases tr p q <;> first | exact narrow_b0 | exact narrow_b1
  unfold V_X6_setTreaty
  refine s_reqP hp (s_reqP hq (wp_f2 (fun z => hne ((nI_eq (by omega) (by omega)).mp z)) (s_hasTreaty ht hp hq ?_)))
  rw [nI_clamp (n := p) (by omega), nI_clamp (n := q) (by omega)]
  cases b with
  | true =>
    refine wp_f (by decide) ⟨ip, ip, iq, iq, nar, ?_⟩
    have e1 : stE en tr p q true = en := stE_no (by rw [Bool.not_true, Bool.and_false])
    rw [e1] at h
    have k9 := kp_sA (j := 26) (f := upd ((sA g 26 (upd (g.1 26) p ((g.1 26 p) ||| ((1 : Int32) <<< (nI q &&& 31))))).1 26) q (((sA g 26 (upd (g.1 26) p ((g.1 26 p) ||| ((1 : Int32) <<< (nI q &&& 31))))).1 26 q) ||| ((1 : Int32) <<< (nI p &&& 31)))) (kp_sA (ks := [26]) (ss := [32, 33, 34, 35]) (j := 26) (f := upd (g.1 26) p ((g.1 26 p) ||| ((1 : Int32) <<< (nI q &&& 31)))) (kp_rf (g := g)) (by simp)) (by simp)
    exact h _ k9 (CT_set ht hp hq hne) (CSv_kp (ks := [26]) (ss := []) hv (kp_sA (kp_sA kp_rf (by simp)) (by simp)) (fun k hk => by have := List.mem_singleton.mp hk; omega) (fun k hk => absurd hk (by simp)))
  | false =>
    refine wp_t rfl ?_
    cases htr : tr p q with
    | false =>
      rw [htr] at h nar
      have e1 : stE en tr p q false = en := stE_no (by rw [htr, Bool.false_and])
      have e2 : stT tr p q false = tr := stT_no htr (hsy.trans htr)
      rw [e1, e2] at h
      exact wp_t rfl ⟨nar, h g kp_rf ht hv⟩
    | true =>
      rw [htr] at h nar
      have hT := CT_clr ht hp hq hne
      refine wp_f (by decide) ⟨ip, ip, iq, iq, ip, ?_⟩
      have k1 : kp [26] [] g (sA (sA g 26 (upd (g.1 26) p ((g.1 26 p) &&& (((1 : Int32) <<< (nI q &&& 31)) ^^^ (-1))))) 26 (upd ((sA g 26 (upd (g.1 26) p ((g.1 26 p) &&& (((1 : Int32) <<< (nI q &&& 31)) ^^^ (-1))))).1 26) q (((sA g 26 (upd (g.1 26) p ((g.1 26 p) &&& (((1 : Int32) <<< (nI q &&& 31)) ^^^ (-1))))).1 26 q) &&& (((1 : Int32) <<< (nI p &&& 31)) ^^^ (-1))))) := kp_sA (kp_sA kp_rf (by simp)) (by simp)
      generalize sA (sA g 26 (upd (g.1 26) p ((g.1 26 p) &&& (((1 : Int32) <<< (nI q &&& 31)) ^^^ (-1))))) 26 (upd ((sA g 26 (upd (g.1 26) p ((g.1 26 p) &&& (((1 : Int32) <<< (nI q &&& 31)) ^^^ (-1))))).1 26) q (((sA g 26 (upd (g.1 26) p ((g.1 26 p) &&& (((1 : Int32) <<< (nI q &&& 31)) ^^^ (-1))))).1 26 q) &&& (((1 : Int32) <<< (nI p &&& 31)) ^^^ (-1)))) = g1 at hT k1 ⊢
      have hv1 : CSv F bk al en g1 := CSv_kp hv k1 (fun k hk => by have := List.mem_singleton.mp hk; omega) (fun k hk => absurd hk (by simp))
      have mem : ∀ r, r < 4 → 32 + r ∈ ([32, 33, 34, 35] : List Nat) := fun r hr => by
        rcases (show r = 0 ∨ r = 1 ∨ r = 2 ∨ r = 3 by omega) with rfl | rfl | rfl | rfl <;> decide
      refine s_end1 (en' := fun i j => if i = p ∧ j = q then true else en i j) hv1 hp hq (if_pos ⟨rfl, rfl⟩) (fun i j hij => if_neg hij) (fun g2 k2 hv2 => ⟨iq, s_end1 (en' := stE en tr p q false) hv2 hq hp ?_ (fun i j hij => ?_) (fun g3 k3 hv3 => ⟨nar, h g3 (kp_tr (kp_up k1 (fun _ z => z) (fun k hk => absurd hk (by simp))) (kp_tr (kp_up k2 (fun k hk => absurd hk (by simp)) (fun k hk => by rw [List.mem_singleton.mp hk]; exact mem p hp)) (kp_up k3 (fun k hk => absurd hk (by simp)) (fun k hk => by rw [List.mem_singleton.mp hk]; exact mem q hq)))) (CT_kp (CT_kp hT k2 (by simp)) k3 (by simp)) hv3⟩)⟩)
      · unfold stE
        rw [if_pos (Or.inr ⟨rfl, rfl⟩), htr]
        exact Bool.or_true _
      · unfold stE
        by_cases e : i = p ∧ j = q
        · rw [if_pos (Or.inl e), if_pos e, htr]
          exact Bool.or_true _
        · rw [if_neg e, if_neg (fun y => y.elim e hij)]
theorem r_setTreaty {p q : Nat} {b : Bool} {post : Int32 → St → Prop} (ht : MT tr mu) (hv : MSv F bk al en mu) (hp : p < 4) (hq : q < 4) (hne : p ≠ q)
    (h : ∀ mu', kp [8, 15] [0] mu mu' → mu'.2 0 = 0 → MT (stT tr p q b) mu' → MSv F bk al (stE en tr p q b) mu' → post (nI (bN (tr p q))) mu') : V_X7_setTreaty (nI p) (nI q) (nI (bN b)) mu post := by
  have i1 : vp_in (nI (4 * p + q)) 16 := vp_in_nI (by omega) (by omega)
  have i2 : vp_in (nI (4 * q + p)) 16 := vp_in_nI (by omega) (by omega)
  have nar : narrow .boolean (.int (nI (bN (tr p q)))) = .int (nI (bN (tr p q))) := by cases tr p q <;> first | exact narrow_b0 | exact narrow_b1
  have orb : ∀ x y : Bool, vp_nar .boolean (nI (bN x) ||| nI (bN y)) = nI (bN (x || y)) := fun x y => by cases x <;> cases y <;> rfl
  unfold V_X7_setTreaty J_X7_setTreaty_24
  refine gd_le (n := 4) hp (by omega) (gd_le (n := 4) hq (by omega) (r_no1 (wp_t2 rfl (wp_f (fun z => hne ((nI_eq (by omega) (by omega)).mp z)) ?_))))
  unfold J_X7_setTreaty_42 J_X7_setTreaty_109
  refine r_no1 (wp_t rfl ?_)
  rw [sS_00, i_4, i_4, nI_clamp (n := 4 * p + q) (by omega), nI_clamp (n := 4 * q + p) (by omega)]
  have e8 : (sS mu 0 0).1 8 (4 * p + q) = nI (bN (tr p q)) := ht p q hp hq
  rw [e8, nar_b]
  -- the treaties
  have k1 : kp [8] [0] mu (sA (sA (sS mu 0 0) 8 (upd ((sS mu 0 0).1 8) (4 * p + q) (nI (bN b)))) 8 (upd ((sA (sS mu 0 0) 8 (upd ((sS mu 0 0).1 8) (4 * p + q) (nI (bN b)))).1 8) (4 * q + p) (nI (bN b)))) := kp_sA (kp_sA (kp_sS kp_rf (by simp)) (by simp)) (by simp)
  have t1 : MT (stT tr p q b) (sA (sA (sS mu 0 0) 8 (upd ((sS mu 0 0).1 8) (4 * p + q) (nI (bN b)))) 8 (upd ((sA (sS mu 0 0) 8 (upd ((sS mu 0 0).1 8) (4 * p + q) (nI (bN b)))).1 8) (4 * q + p) (nI (bN b)))) := fun i j hi hj => by
    rw [sA_eq, sA_eq]
    unfold upd stT
    by_cases e1 : i = q ∧ j = p
    · rw [if_pos (by omega), if_pos (Or.inr e1)]
    · rw [if_neg (by omega)]
      by_cases e2 : i = p ∧ j = q
      · rw [if_pos (by omega), if_pos (Or.inl e2)]
      · rw [if_neg (by omega), if_neg (fun y => y.elim e2 e1)]
        exact ht i j hi hj
  have z1 : (sA (sA (sS mu 0 0) 8 (upd ((sS mu 0 0).1 8) (4 * p + q) (nI (bN b)))) 8 (upd ((sA (sS mu 0 0) 8 (upd ((sS mu 0 0).1 8) (4 * p + q) (nI (bN b)))).1 8) (4 * q + p) (nI (bN b)))).2 0 = 0 := sS_eq mu 0 0
  generalize sA (sA (sS mu 0 0) 8 (upd ((sS mu 0 0).1 8) (4 * p + q) (nI (bN b)))) 8 (upd ((sA (sS mu 0 0) 8 (upd ((sS mu 0 0).1 8) (4 * p + q) (nI (bN b)))).1 8) (4 * q + p) (nI (bN b))) = g1 at k1 t1 z1 ⊢
  have hv1 : MSv F bk al en g1 := MSv_kp hv k1 (by simp) (by simp) (by simp) (by simp) (by simp)
  have e15 : g1.1 15 (4 * p + q) = nI (bN (en p q)) := (hv1 p hp).2.2.2.2 q hq
  have e15b : g1.1 15 (4 * q + p) = nI (bN (en q p)) := (hv1 q hq).2.2.2.2 p hp
  rw [e15]
  -- the end, with w: whether it has ended
  have fin : ∀ w : Bool, w = (tr p q && !b) → post (nI (bN (tr p q))) (sA (sA g1 15 (upd (g1.1 15) (4 * p + q) (vp_nar .boolean (nI (bN (en p q)) ||| nI (bN w))))) 15 (upd ((sA g1 15 (upd (g1.1 15) (4 * p + q) (vp_nar .boolean (nI (bN (en p q)) ||| nI (bN w))))).1 15) (4 * q + p) (vp_nar .boolean (((sA g1 15 (upd (g1.1 15) (4 * p + q) (vp_nar .boolean (nI (bN (en p q)) ||| nI (bN w))))).1 15 (4 * q + p)) ||| nI (bN w))))) := fun w hw => by
    have e9 : (sA g1 15 (upd (g1.1 15) (4 * p + q) (vp_nar .boolean (nI (bN (en p q)) ||| nI (bN w))))).1 15 (4 * q + p) = nI (bN (en q p)) := by
      rw [sA_eq, pk_un (by omega)]; exact e15b
    rw [e9, orb, orb]
    refine h _ (kp_sA (kp_sA (kp_up k1 (fun k hk => by simp at hk ⊢; omega) (fun _ z => z)) (by simp)) (by simp)) z1 (MT_kp (ks := [15]) (ss := []) t1 (kp_sA (kp_sA kp_rf (by simp)) (by simp)) (by simp)) (fun i hi => ?_)
    obtain ⟨a1, a2, a3, a4, a5⟩ := hv1 i hi
    refine ⟨a1, a2, a3, a4, fun j hj => ?_⟩
    rw [sA_eq, sA_eq]
    unfold upd stE
    rw [← hw]
    by_cases e1 : i = q ∧ j = p
    · rw [if_pos (by omega), if_pos (Or.inr e1), e1.1, e1.2]
    · rw [if_neg (by omega)]
      by_cases e2 : i = p ∧ j = q
      · rw [if_pos (by omega), if_pos (Or.inl e2), e2.1, e2.2]
      · rw [if_neg (by omega), if_neg (fun y => y.elim e2 e1)]
        exact a5 j hj
  have end0 : ∀ v4 : Int32, v4 = nI (bN (tr p q)) → (tr p q && !b) = false → J_X7_setTreaty_110 (nI p) (nI q) (nI (bN b)) post (nI p) (nI q) (nI (bN b)) v4 0 (nI (bN (en p q))) (nI (4 * p + q)) g1 := fun v4 ev4 hw => by
    unfold J_X7_setTreaty_110
    rw [i_4, nI_clamp (n := 4 * p + q) (by omega), nI_clamp (n := 4 * q + p) (by omega), ev4]
    have f0 := fin false hw.symm
    refine ⟨i1, i2, fun _ => ⟨i2, nar, f0⟩, fun hn => ⟨fun _ => ⟨i2, nar, f0⟩, fun hz => ?_⟩⟩
    exfalso
    have hb : b = false := bN_0.mp hz
    rw [hb] at hw
    cases htr : tr p q with
    | false => rw [htr] at hn; exact hn rfl
    | true => rw [htr] at hw; cases hw
  refine ⟨i1, i1, i2, i1, fun hz => end0 _ rfl (by rw [bN_0.mp hz, Bool.false_and]), fun hn => ⟨fun hb => end0 _ rfl ?_, fun hb => ?_⟩⟩
  · cases b with
    | false => exact absurd rfl hb
    | true => rw [Bool.not_true, Bool.and_false]
  · have hb0 : b = false := bN_0.mp hb
    have htr : tr p q = true := by
      cases h0 : tr p q with
      | false => rw [h0] at hn; exact absurd rfl hn
      | true => rfl
    unfold J_X7_setTreaty_110
    rw [i_4, nI_clamp (n := 4 * p + q) (by omega), nI_clamp (n := 4 * q + p) (by omega)]
    have f1 := fin true (by rw [htr, hb0]; rfl)
    exact ⟨i1, i2, wp_f hn (wp_t2 hb ⟨i2, nar, f1⟩)⟩
end TR
