/-! PART 70: the relation between the class and the reference -/
def Iok (n : Nat) (ow : Nat → Nat) (t p : Nat) (X : Nat × (Nat → Nat)) : Prop := X.1 ≤ 60 ∧ (∀ k, k < X.1 → X.2 k < 10000000 ∧ X.2 k / 100000 ≤ t ∧ X.2 k % 1000 < n ∧ ow (X.2 k % 1000) ≠ p) ∧ srt X.1 X.2
theorem Iok.bd {n : Nat} {ow : Nat → Nat} {t p : Nat} {X : Nat × (Nat → Nat)} (h : Iok n ow t p X) : Ibd X.1 X.2 := ⟨h.1, fun k hk => (h.2.1 k hk).1⟩
theorem Iok.ky {n : Nat} {ow : Nat → Nat} {t p : Nat} {X : Nat × (Nat → Nat)} (h : Iok n ow t p X) : ∀ k, k < X.1 → kyN (X.2 k) < (t + 1) * 1000 := fun k hk => by
  obtain ⟨a, b, -, -⟩ := h.2.1 k hk
  have hm := Nat.mod_lt (X.2 k) (show 0 < 1000 by omega)
  unfold kyN
  omega
theorem Iok.mono {n n' : Nat} {ow ow' : Nat → Nat} {t t' p : Nat} {X : Nat × (Nat → Nat)} (h : Iok n ow t p X) (hn : n ≤ n') (ht : t ≤ t') (ho : ∀ u, u < n → ow' u = ow u) : Iok n' ow' t' p X := ⟨h.1, fun k hk => by
  obtain ⟨a, b, c, d⟩ := h.2.1 k hk
  exact ⟨a, by omega, by omega, by rw [ho _ c]; exact d⟩, h.2.2⟩
theorem Iok.sg {n : Nat} {sd : Int32} {ow kk c : Nat → Nat} {tr : Nat → Nat → Bool} {J : Nat → Nat × (Nat → Nat)} {t p : Nat} (hn : n ≤ 24) (ht : t < 99) (h : Iok n ow t p (J p)) : Iok n ow (t + 1) p (sg2 n sd ow kk c (t + 1) tr J p) := by
  obtain ⟨a1, a2⟩ := sg2_all (P := fun x => x < 10000000 ∧ x / 100000 ≤ t + 1 ∧ x % 1000 < n ∧ ow (x % 1000) ≠ p) (n := n) (t := t + 1) (sd := sd) (ow := ow) (kk := kk) (c := c) (tr := tr) (J := J) (p := p) h.1 (fun k hk => by
    obtain ⟨a, b, c, d⟩ := h.2.1 k hk
    exact ⟨a, by omega, c, d⟩) (fun u hu hl ho => by
    have e1 : numN (t + 1) c u / 100000 = t + 1 := by unfold numN; omega
    have e2 : numN (t + 1) c u % 1000 = u := by unfold numN; omega
    rw [e1, e2]
    exact ⟨numN_bd (by omega) hl (by omega), Nat.le_refl _, hu, ho⟩)
  exact ⟨a1, a2, sg2_srt h.1 h.2.2⟩
section RL
variable (sd : Int32) (n t : Nat) (sv : Bool) (ow kk s0 : Nat → Nat) (D : Nat → Nat → Nat → Nat) (m : Nat → Nat) (J : Nat → Nat × (Nat → Nat)) (tr : Nat → Nat → Bool) (F : Nat → Nat × (Nat → Nat)) (bk al en : Nat → Nat → Bool)
def RC (g : St) : Prop := CUs 0 sd n ow kk g ∧ g.2 0 = sd ∧ CUc 0 n (posH n ow kk sd s0 D t) g ∧ (∀ u, u < n → g.1 7 u = nI (s0 u)) ∧ g.2 1 = nI t ∧ COall D m g ∧ CXI J g ∧ CT tr g ∧ g.2 2 = nI (bN sv) ∧ CSv F bk al en g
def RM (mu : St) : Prop := MUs sd n ow kk mu ∧ MUc n (posH n ow kk sd s0 D t) mu ∧ mu.2 3 = nI t ∧ MOall D m t mu ∧ MXI J mu ∧ MT tr mu ∧ mu.2 4 = nI (bN sv) ∧ MSv F bk al en mu
def RP : Prop := t ≤ 99 ∧ Cok n s0 ∧ (∀ u, u < n → s0 u < 64) ∧ Dok D m n t ∧ (∀ p : Nat, p < 4 → Iok n ow t p (J p)) ∧ (∀ p : Nat, p < 4 → tr p p = false ∧ ∀ q : Nat, q < 4 → tr p q = tr q p) ∧ (∀ p : Nat, p < 4 → Iok n ow t p (F p)) ∧ ∀ p : Nat, p < 4 → ∀ i, (F p).1 ≤ 4 * i → bk p i = false
end RL
def Rel (g mu : St) : Prop := ∃ (sd : Int32) (n t : Nat) (sv : Bool) (ow kk s0 : Nat → Nat) (D : Nat → Nat → Nat → Nat) (m : Nat → Nat) (J : Nat → Nat × (Nat → Nat)) (tr : Nat → Nat → Bool) (F : Nat → Nat × (Nat → Nat)) (bk al en : Nat → Nat → Bool), RC sd n t sv ow kk s0 D m J tr F bk al en g ∧ RM sd n t sv ow kk s0 D m J tr F bk al en mu ∧ RP n t ow s0 D m J tr F bk
section RV
variable {sd : Int32} {n t : Nat} {sv : Bool} {ow kk s0 : Nat → Nat} {D : Nat → Nat → Nat → Nat} {m : Nat → Nat} {J : Nat → Nat × (Nat → Nat)} {tr : Nat → Nat → Bool} {F : Nat → Nat × (Nat → Nat)} {bk al en : Nat → Nat → Bool} {g mu mu' : St}
theorem MOall_kp {ks ss : List Nat} (h : MOall D m t mu) (hk : kp ks ss mu mu') (h1 : 4 ∉ ks) (h2 : 5 ∉ ks) (h3 : 6 ∉ ks) : MOall D m t mu' := fun u hu => by
  rw [hk.1 4 h1, hk.1 5 h2, hk.1 6 h3]
  exact h u hu
theorem COall_kp {ks ss : List Nat} {g' : St} (h : COall D m g) (hk : kp ks ss g g') (h1 : 22 ∉ ks) (h2 : 23 ∉ ks) : COall D m g' := by
  unfold COall
  rw [hk.1 22 h1, hk.1 23 h2]
  exact h
theorem RM_0 {v : Int32} (h : RM sd n t sv ow kk s0 D m J tr F bk al en mu) : RM sd n t sv ow kk s0 D m J tr F bk al en (sS mu 0 v) := by
  obtain ⟨a1, a2, a3, a4, a5, a6, a7, a8⟩ := h
  have k0 : kp [] [0] mu (sS mu 0 v) := kp_sS kp_rf (by simp)
  exact ⟨MUs_kp a1 k0 (by simp) (by simp) (by simp) (by simp), MUc_kp a2 k0 (by simp), (k0.2 3 (by simp)).trans a3, MOall_kp a4 k0 (by simp) (by simp) (by simp), fun p hp => MI_kp (a5 p hp) k0 (by simp) (by simp), MT_kp a6 k0 (by simp), (k0.2 4 (by simp)).trans a7, MSv_kp a8 k0 (by simp) (by simp) (by simp) (by simp) (by simp)⟩
theorem Rel_0 {v : Int32} (h1 : RC sd n t sv ow kk s0 D m J tr F bk al en g) (h2 : RM sd n t sv ow kk s0 D m J tr F bk al en mu) (h3 : RP n t ow s0 D m J tr F bk) : Rel g (sS mu 0 v) := ⟨sd, n, t, sv, ow, kk, s0, D, m, J, tr, F, bk, al, en, h1, RM_0 h2, h3⟩
theorem Rel_mk (h1 : RC sd n t sv ow kk s0 D m J tr F bk al en g) (h2 : RM sd n t sv ow kk s0 D m J tr F bk al en mu) (h3 : RP n t ow s0 D m J tr F bk) : Rel g mu := ⟨sd, n, t, sv, ow, kk, s0, D, m, J, tr, F, bk, al, en, h1, h2, h3⟩
theorem RP.Fok (h : RP n t ow s0 D m J tr F bk) : Fok F bk := fun p hp => ⟨(h.2.2.2.2.2.2.1 p hp).bd, h.2.2.2.2.2.2.2 p hp⟩
end RV
/-! the law's comparisons -/
theorem lg_self (x : Int64) : lg_cmp x x = 0 := (lg_cmp_eq x x).mpr rfl
theorem k_val {P : St → Prop} {r : Int32} {f : Nat → Int64} {mu : St} (h0 : mu.2 0 = 0) (hP : P mu) : V_X7_thrown mu (fun r6 mu7 => ((r6 = 0 → ((¬ (0 : Int32) = 0 → P mu7) ∧ ((0 : Int32) = 0 → (((lg_cmp (vp_updL f 0 (Int32.toInt64 r) 0) (Int32.toInt64 r)) = 0 → P mu7) ∧ (¬ (lg_cmp (vp_updL f 0 (Int32.toInt64 r) 0) (Int32.toInt64 r)) = 0 → False))))) ∧ (¬ r6 = 0 → False))) := by
  unfold V_X7_thrown
  exact wp_t h0 ⟨fun n => absurd rfl n, fun _ => wp_t (by rw [pk_uLs]; exact lg_self _) hP⟩
theorem k_bool {P : St → Prop} {r : Bool} {f : Nat → Int64} {mu : St} (h0 : mu.2 0 = 0) (hP : P mu) : V_X7_thrown mu (fun r6 mu7 => ((r6 = 0 → ((¬ (0 : Int32) = 0 → P mu7) ∧ ((0 : Int32) = 0 → ((nI (bN r) = 0 → (((lg_cmp (vp_updL f 0 (if r then 1 else 0) 0) 0) = 0 → P mu7) ∧ (¬ (lg_cmp (vp_updL f 0 (if r then 1 else 0) 0) 0) = 0 → False))) ∧ (¬ nI (bN r) = 0 → (((lg_cmp (vp_updL f 0 (if r then 1 else 0) 0) 1) = 0 → P mu7) ∧ (¬ (lg_cmp (vp_updL f 0 (if r then 1 else 0) 0) 1) = 0 → False))))))) ∧ (¬ r6 = 0 → False))) := by
  unfold V_X7_thrown
  refine wp_t h0 ⟨fun n => absurd rfl n, fun _ => ?_⟩
  cases r with
  | false => exact wp_t rfl (wp_t (by rw [pk_uLs]; rfl) hP)
  | true => exact wp_f (by decide) (wp_t (by rw [pk_uLs]; rfl) hP)
theorem k_thr {P X : St → Prop} {k : Int32} {mu : St} (hk : ¬ k = 0) (h0 : mu.2 0 = k) (hP : P mu) : V_X7_thrown mu (fun r6 mu7 => ((r6 = k → ((¬ k = 0 → P mu7) ∧ (k = 0 → X mu7))) ∧ (¬ r6 = k → False))) := by
  unfold V_X7_thrown
  exact wp_t h0 (wp_f2 hk hP)
/-- an int outside 0 .. n-1 -/
def bad (n : Nat) (x : Int32) : Prop := x < 0 ∨ nI n ≤ x
theorem bad_or {n : Nat} (hn : n < 2 ^ 31) (x : Int32) : bad n x ∨ ∃ j : Nat, j < n ∧ x = nI j := by
  rcases pk_ix x hn with h | h | h
  · exact Or.inl (Or.inl h)
  · exact Or.inl (Or.inr h)
  · exact Or.inr h
theorem bad_le {n : Nat} {x : Int32} {A A' B : Prop} (h : bad n x) (ha : A) (ha' : A') : (x < 0 → A) ∧ (¬ x < 0 → ((nI n ≤ x → A') ∧ (¬ nI n ≤ x → B))) := by
  refine ⟨fun _ => ha, fun h0 => ⟨fun _ => ha', fun h1 => ?_⟩⟩
  rcases h with h | h
  · exact absurd h h0
  · exact absurd h h1
theorem bad_lt {n : Nat} {x : Int32} {A A' B : Prop} (h : bad n x) (ha : A) (ha' : A') : (x < 0 → A) ∧ (¬ x < 0 → ((x < nI n → B) ∧ (¬ x < nI n → A'))) := by
  refine ⟨fun _ => ha, fun h0 => ⟨fun h1 => ?_, fun _ => ha'⟩⟩
  rcases h with h | h
  · exact absurd h h0
  · exact absurd h (Int32.not_le.mpr h1)
theorem gd_le {n j : Nat} {A A' B : Prop} (hj : j < n) (hn : n < 2 ^ 31) (h : B) : (nI j < 0 → A) ∧ (¬ nI j < 0 → ((nI n ≤ nI j → A') ∧ (¬ nI n ≤ nI j → B))) := wp_f (nI_pos (by omega)) (wp_f (nI_ge hj hn) h)
theorem gd_lt {n j : Nat} {A A' B : Prop} (hj : j < n) (hn : n < 2 ^ 31) (h : B) : (nI j < 0 → A) ∧ (¬ nI j < 0 → ((nI j < nI n → B) ∧ (¬ nI j < nI n → A'))) := wp_f (nI_pos (by omega)) (wp_t (nI_lt hj hn) h)
section RQ
variable {g mu : St}
theorem s_reqP {p : Nat} {post : St → Prop} {px : String → St → Prop} (hp : p < 4) (h : post g) : V_X6_requirePlayer (nI p) g post px := by
  unfold V_X6_requirePlayer
  exact gd_lt (n := 4) hp (by omega) h
theorem s_reqPx {x : Int32} {post : St → Prop} {px : String → St → Prop} (hb : bad 4 x) (h : px "java/lang/IndexOutOfBoundsException" g) : V_X6_requirePlayer x g post px := by
  unfold V_X6_requirePlayer J_X6_requirePlayer_9
  exact bad_lt hb h h
theorem s_isCellx {x : Int32} {post : Int32 → Prop} (hb : bad 64 x) (h : post 0) : V_X6_isCell x post := by
  unfold V_X6_isCell
  exact bad_le hb h h
theorem s_reqC {c : Nat} {post : St → Prop} {px : String → St → Prop} (hc : c < 64) (h : post g) : V_X6_requireCell (nI c) g post px := by
  unfold V_X6_requireCell
  exact s_isCell_in hc (wp_f2 (by decide) h)
theorem s_reqCx {x : Int32} {post : St → Prop} {px : String → St → Prop} (hb : bad 64 x) (h : px "java/lang/IndexOutOfBoundsException" g) : V_X6_requireCell x g post px := by
  unfold V_X6_requireCell
  exact s_isCellx hb (wp_t2 rfl h)
theorem s_reqU {n u : Nat} {post : St → Prop} {px : String → St → Prop} (hn : g.2 (3 + 0) = nI n) (h24 : n ≤ 24) (hu : u < n) (h : post g) : V_X6_requireUnit (nI u) g post px := by
  unfold V_X6_requireUnit V_X5_has
  rw [hn]
  exact gd_le hu (by omega) (wp_f2 (by decide) h)
theorem s_reqUx {n : Nat} {x : Int32} {post : St → Prop} {px : String → St → Prop} (hn : g.2 (3 + 0) = nI n) (hb : bad n x) (h : px "java/lang/IndexOutOfBoundsException" g) : V_X6_requireUnit x g post px := by
  unfold V_X6_requireUnit V_X5_has
  rw [hn]
  exact bad_le hb (wp_t2 rfl h) (wp_t2 rfl h)
theorem s_reqS {post : St → Prop} {px : String → St → Prop} (hs : g.2 2 = nI (bN true)) (h : post g) : V_X6_requireSave g post px := by
  unfold V_X6_requireSave
  rw [hs]
  exact wp_f2 (by decide) h
theorem s_reqSx {post : St → Prop} {px : String → St → Prop} (hs : g.2 2 = nI (bN false)) (h : px "java/util/NoSuchElementException" g) : V_X6_requireSave g post px := by
  unfold V_X6_requireSave
  rw [hs]
  exact wp_t2 rfl h
theorem r_noP {p : Nat} {post : Int32 → St → Prop} (hp : p < 4) (h : post 0 (sS mu 0 0)) : V_X7_noPlayer (nI p) mu post := by
  unfold V_X7_noPlayer J_X7_noPlayer_15
  exact gd_le (n := 4) hp (by omega) (r_no1 ⟨rfl, h⟩)
theorem r_noPx {x : Int32} {post : Int32 → St → Prop} (hb : bad 4 x) (h : post 1 (sS mu 0 1)) : V_X7_noPlayer x mu post := by
  unfold V_X7_noPlayer J_X7_noPlayer_14 J_X7_noPlayer_15
  exact bad_le hb (r_no0 ⟨rfl, h⟩) (r_no0 ⟨rfl, h⟩)
theorem r_noU {n u : Nat} {post : Int32 → St → Prop} (hn : mu.2 2 = nI n) (h24 : n ≤ 24) (hu : u < n) (h : post 0 (sS mu 0 0)) : V_X7_noUnit (nI u) mu post := by
  unfold V_X7_noUnit J_X7_noUnit_18
  rw [hn]
  exact gd_le hu (by omega) (r_no1 ⟨rfl, h⟩)
theorem r_noUx {n : Nat} {x : Int32} {post : Int32 → St → Prop} (hn : mu.2 2 = nI n) (hb : bad n x) (h : post 1 (sS mu 0 1)) : V_X7_noUnit x mu post := by
  unfold V_X7_noUnit J_X7_noUnit_17 J_X7_noUnit_18
  rw [hn]
  exact bad_le hb (r_no0 ⟨rfl, h⟩) (r_no0 ⟨rfl, h⟩)
theorem r_isCell {c : Nat} {post : Int32 → Prop} (hc : c < 64) (h : post 1) : V_X7_isCell (nI c) post := by
  unfold V_X7_isCell
  exact gd_le (n := 64) hc (by omega) h
theorem r_isCellx {x : Int32} {post : Int32 → Prop} (hb : bad 64 x) (h : post 0) : V_X7_isCell x post := by
  unfold V_X7_isCell
  exact bad_le hb h h
theorem r_noS {p : Nat} {post : Int32 → St → Prop} (hp : p < 4) (hs : mu.2 4 = nI (bN true)) (h : post 0 (sS mu 0 0)) : V_X7_noSave (nI p) mu post := by
  unfold V_X7_noSave
  refine r_noP hp (wp_t2 rfl ?_)
  have e : (sS mu 0 0).2 4 = 1 := (sS_ne _ _ (by decide)).trans hs
  rw [e]
  refine r_no1 (wp_t rfl ?_)
  have e2 : sS (sS mu 0 0) 0 0 = sS mu 0 0 := by
    unfold sS
    congr 1
    funext k
    dsimp only
    split <;> rfl
  rw [e2]
  exact h
theorem r_noSx {p : Nat} {post : Int32 → St → Prop} (hp : p < 4) (hs : mu.2 4 = nI (bN false)) (h : post 1 (sS (sS mu 0 0) 0 2)) : V_X7_noSave (nI p) mu post := by
  unfold V_X7_noSave
  refine r_noP hp (wp_t2 rfl ?_)
  have e : (sS mu 0 0).2 4 = 0 := (sS_ne _ _ (by decide)).trans hs
  rw [e]
  exact r_no0 (wp_f (by decide) h)
theorem r_noSpx {x : Int32} {post : Int32 → St → Prop} (hb : bad 4 x) (h : post 1 (sS mu 0 1)) : V_X7_noSave x mu post := by
  unfold V_X7_noSave
  exact r_noPx hb (wp_f2 (by decide) h)
end RQ
