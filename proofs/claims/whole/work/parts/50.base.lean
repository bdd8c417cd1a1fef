/-! PART 50: loops counted up, states that agree but for some rows, the first index -/
theorem lp_for {σ : Type} {F : (σ → Prop) → σ → Prop} (n : Nat) (I : Nat → σ → Prop) (h : ∀ (K : σ → Prop) (k : Nat) (x : σ), k < n → I k x → (∀ y, I (k + 1) y → K y) → F K x) (hn : ∀ (K : σ → Prop) (x : σ), I n x → F K x) {x : σ} (hx : I 0 x) : lpP F x := by
  have key : ∀ d k x, k + d = n → I k x → itP F (d + 1) x := by
    intro d
    induction d with
    | zero =>
      intro k x hk hx
      have e : k = n := by omega
      subst e
      exact hn _ x hx
    | succ d ih =>
      intro k x hk hx
      exact h _ k x (by omega) hx (fun y hy => ih (k + 1) y (by omega) hy)
  exact ⟨n + 1, key n 0 x (by omega) hx⟩
def kp (ks ss : List Nat) (g g' : St) : Prop := (∀ k, k ∉ ks → g'.1 k = g.1 k) ∧ (∀ k, k ∉ ss → g'.2 k = g.2 k)
section KP
variable {ks ss ks' ss' : List Nat} {g g' g2 : St}
theorem kp_rf : kp ks ss g g := ⟨fun _ _ => rfl, fun _ _ => rfl⟩
theorem kp_tr (h1 : kp ks ss g g') (h2 : kp ks ss g' g2) : kp ks ss g g2 := ⟨fun k hk => (h2.1 k hk).trans (h1.1 k hk), fun k hk => (h2.2 k hk).trans (h1.2 k hk)⟩
theorem kp_up (h : kp ks ss g g') (h1 : ∀ k, k ∈ ks → k ∈ ks') (h2 : ∀ k, k ∈ ss → k ∈ ss') : kp ks' ss' g g' := ⟨fun k hk => h.1 k (fun z => hk (h1 k z)), fun k hk => h.2 k (fun z => hk (h2 k z))⟩
theorem kp_sA {j : Nat} {f : Nat → Int32} (h : kp ks ss g g') (hj : j ∈ ks) : kp ks ss g (sA g' j f) := ⟨fun k hk => by
  show (if k = j then f else g'.1 k) = _
  rw [if_neg (show ¬ k = j from fun e => hk (e ▸ hj))]
  exact h.1 k hk, h.2⟩
theorem kp_sS {j : Nat} {v : Int32} (h : kp ks ss g g') (hj : j ∈ ss) : kp ks ss g (sS g' j v) := ⟨h.1, fun k hk => by
  show (if k = j then v else g'.2 k) = _
  rw [if_neg (show ¬ k = j from fun e => hk (e ▸ hj))]
  exact h.2 k hk⟩
end KP
theorem sA_1 (g : St) (j k : Nat) (f : Nat → Int32) : (sA g j f).1 k = if k = j then f else g.1 k := rfl
theorem sA_eq (g : St) (j : Nat) (f : Nat → Int32) : (sA g j f).1 j = f := if_pos rfl
theorem sA_ne (g : St) {j k : Nat} (f : Nat → Int32) (h : k ≠ j) : (sA g j f).1 k = g.1 k := if_neg h
theorem sA_2 (g : St) (j : Nat) (f : Nat → Int32) : (sA g j f).2 = g.2 := rfl
theorem sS_1 (g : St) (j : Nat) (v : Int32) : (sS g j v).1 = g.1 := rfl
theorem sS_2 (g : St) (j k : Nat) (v : Int32) : (sS g j v).2 k = if k = j then v else g.2 k := rfl
theorem sS_eq (g : St) (j : Nat) (v : Int32) : (sS g j v).2 j = v := if_pos rfl
theorem sS_ne (g : St) {j k : Nat} (v : Int32) (h : k ≠ j) : (sS g j v).2 k = g.2 k := if_neg h
theorem nI_m1 {n : Nat} (h : n < 2 ^ 31) : ¬ nI n = -1 := by
  intro e
  have e2 := congrArg Int32.toInt e
  rw [nI_toInt h] at e2
  have e3 : (-1 : Int32).toInt = -1 := by decide
  omega
theorem nI_up (k : Nat) : nI k + 1 = nI (k + 1) := (nI_succ k).symm
/-- a number below m as itself, all else as -1 -/
def iI (m x : Nat) : Int32 := if x < m then nI x else -1
theorem iI_in {m x : Nat} (h : x < m) : iI m x = nI x := if_pos h
theorem iI_out {m x : Nat} (h : m ≤ x) : iI m x = -1 := if_neg (Nat.not_lt.mpr h)
theorem iI_m1 {m x : Nat} (hm : m ≤ 4800) : iI m x = -1 ↔ m ≤ x := by
  by_cases h : x < m
  · rw [iI_in h]
    exact ⟨fun e => absurd e (nI_m1 (by omega)), fun e => absurd e (by omega)⟩
  · rw [iI_out (by omega)]
    exact ⟨fun _ => by omega, fun _ => rfl⟩
theorem iI_inj {m a b : Nat} (hm : m ≤ 4800) (ha : a ≤ m) (hb : b ≤ m) : iI m a = iI m b ↔ a = b := by
  refine ⟨fun e => ?_, fun e => by rw [e]⟩
  by_cases h1 : a < m
  · by_cases h2 : b < m
    · rw [iI_in h1, iI_in h2] at e
      exact (nI_eq (by omega) (by omega)).mp e
    · rw [iI_out (m := m) (x := b) (by omega)] at e
      have := (iI_m1 hm).mp e
      omega
  · rw [iI_out (m := m) (x := a) (by omega)] at e
    have := (iI_m1 hm).mp e.symm
    omega
theorem iI_nI {m a b : Nat} (hm : m ≤ 4800) (hb : b < m) : iI m a = nI b ↔ a = b := by
  by_cases h1 : a < m
  · rw [iI_in h1]; exact nI_eq (by omega) (by omega)
  · rw [iI_out (by omega)]
    exact ⟨fun e => absurd e.symm (nI_m1 (by omega)), fun e => absurd hb (by omega)⟩
def updN (f : Nat → Nat) (i x : Nat) : Nat → Nat := fun k => if k = i then x else f k
theorem updN_s {f : Nat → Nat} {i x : Nat} : updN f i x i = x := if_pos rfl
theorem updN_n {f : Nat → Nat} {i k x : Nat} (h : k ≠ i) : updN f i x k = f k := if_neg h
/-- the first index below n with p; n if there is none -/
def fNf (p : Nat → Bool) : Nat → Nat → Nat
  | 0, k => k
  | d + 1, k => if p k = true then k else fNf p d (k + 1)
def fN (p : Nat → Bool) (n : Nat) : Nat := fNf p n 0
theorem fNf_step (p : Nat → Bool) {n k : Nat} (h : k < n) : fNf p (n - k) k = if p k = true then k else fNf p (n - (k + 1)) (k + 1) := by
  have e : n - k = (n - (k + 1)) + 1 := by omega
  rw [e]; rfl
theorem fNf_end (p : Nat → Bool) (n : Nat) : fNf p (n - n) n = n := by rw [Nat.sub_self]; rfl
theorem fNf_cases (p : Nat → Bool) : ∀ d k, (fNf p d k = k + d ∧ ∀ i, k ≤ i → i < k + d → p i = false) ∨ (k ≤ fNf p d k ∧ fNf p d k < k + d ∧ p (fNf p d k) = true ∧ ∀ j, k ≤ j → j < fNf p d k → p j = false) := by
  intro d
  induction d with
  | zero => intro k; exact Or.inl ⟨rfl, fun i h1 h2 => absurd h2 (by omega)⟩
  | succ d ih =>
    intro k
    by_cases h : p k = true
    · have e : fNf p (d + 1) k = k := if_pos h
      rw [e]
      exact Or.inr ⟨Nat.le_refl _, by omega, h, fun j h1 h2 => absurd h2 (by omega)⟩
    · have e : fNf p (d + 1) k = fNf p d (k + 1) := if_neg h
      have hf : p k = false := by cases hh : p k <;> simp_all
      rw [e]
      rcases ih (k + 1) with ⟨h1, h2⟩ | ⟨h1, h2, h4, h5⟩
      · refine Or.inl ⟨by omega, fun i hi hi2 => ?_⟩
        by_cases ei : i = k
        · rw [ei]; exact hf
        · exact h2 i (by omega) (by omega)
      · refine Or.inr ⟨by omega, by omega, h4, fun j hj hj2 => ?_⟩
        by_cases ei : j = k
        · rw [ei]; exact hf
        · exact h5 j (by omega) hj2
theorem fN_cases (p : Nat → Bool) (n : Nat) : (fN p n = n ∧ ∀ i, i < n → p i = false) ∨ (fN p n < n ∧ p (fN p n) = true ∧ ∀ j, j < fN p n → p j = false) := by
  rcases fNf_cases p n 0 with ⟨h1, h2⟩ | ⟨h1, h2, h4, h5⟩
  · exact Or.inl ⟨by unfold fN; omega, fun i hi => h2 i (Nat.zero_le _) (by omega)⟩
  · exact Or.inr ⟨by unfold fN; omega, h4, fun j hj => h5 j (Nat.zero_le _) hj⟩
theorem fN_le (p : Nat → Bool) (n : Nat) : fN p n ≤ n := by
  rcases fN_cases p n with ⟨h, _⟩ | ⟨h, _⟩ <;> omega
theorem fN_lt {p : Nat → Bool} {n : Nat} (h : fN p n < n) : p (fN p n) = true ∧ ∀ j, j < fN p n → p j = false := by
  rcases fN_cases p n with ⟨h1, _⟩ | ⟨_, h2⟩
  · omega
  · exact h2
theorem fN_no {p : Nat → Bool} {n : Nat} (h : ¬ fN p n < n) {i : Nat} (hi : i < n) : p i = false := by
  rcases fN_cases p n with ⟨_, h2⟩ | ⟨h1, _⟩
  · exact h2 i hi
  · exact absurd h1 h
theorem fN_none {p : Nat → Bool} {n : Nat} (h : ∀ i, i < n → p i = false) : fN p n = n := by
  rcases fN_cases p n with ⟨h1, _⟩ | ⟨h1, h2, _⟩
  · exact h1
  · rw [h _ h1] at h2; cases h2
theorem fN_some {p : Nat → Bool} {n i : Nat} (hi : i < n) (h : p i = true) (h2 : ∀ j, j < i → p j = false) : fN p n = i := by
  rcases fN_cases p n with ⟨_, h1⟩ | ⟨hk, h3, h4⟩
  · rw [h1 i hi] at h; cases h
  · rcases Nat.lt_trichotomy (fN p n) i with h5 | h5 | h5
    · rw [h2 _ h5] at h3; cases h3
    · exact h5
    · rw [h4 i h5] at h; cases h
theorem fN_cong {p q : Nat → Bool} {n : Nat} (h : ∀ i, i < n → p i = q i) : fN p n = fN q n := by
  rcases fN_cases q n with ⟨h1, h2⟩ | ⟨hi, h3, h4⟩
  · rw [h1]; exact fN_none (fun i hi => (h i hi).trans (h2 i hi))
  · exact fN_some hi ((h _ hi).trans h3) (fun j hj => (h j (by omega)).trans (h4 j hj))
/-- for one that alone has the property -/
theorem fN_one {p : Nat → Bool} {n i : Nat} (hi : i < n) (h : p i = true) (h2 : ∀ j, j < n → p j = true → j = i) : fN p n = i := by
  refine fN_some hi h (fun j hj => ?_)
  cases hh : p j with
  | false => rfl
  | true => have := h2 j (by omega) hh; omega
/-! units of a field: hn says how many there are -/
section UN
variable {w n : Nat} {g : St}
theorem s_place {u : Nat} {post : Int32 → St → Prop} (hn : g.2 (3 + w) = nI n) (h24 : n ≤ 24) (hu : u < n) (h : post (g.1 (8 + 10 * w) u) g) : V_X5_place w (nI u) g post := by
  unfold V_X5_place
  rw [hn, nI_clamp (by omega)]
  exact ⟨fun c => absurd c (nI_pos (by omega)), fun _ => pk_le n u (fun c => absurd c (by omega)) (fun _ => ⟨vp_in_nI (by omega) (by omega), h⟩)⟩
theorem s_owner {u : Nat} {post : Int32 → St → Prop} (hn : g.2 (3 + w) = nI n) (h24 : n ≤ 24) (hu : u < n) (h : post (g.1 (5 + 10 * w) u) g) : V_X5_owner w (nI u) g post := by
  unfold V_X5_owner
  rw [hn, nI_clamp (by omega)]
  exact ⟨fun c => absurd c (nI_pos (by omega)), fun _ => pk_le n u (fun c => absurd c (by omega)) (fun _ => ⟨vp_in_nI (by omega) (by omega), h⟩)⟩
theorem s_sight {u k : Nat} {post : Int32 → St → Prop} (hn : g.2 (3 + w) = nI n) (h24 : n ≤ 24) (hu : u < n) (hk : g.1 (6 + 10 * w) u = nI k) (h3 : k < 3) (h : post (kSights k) g) : V_X5_sight w (nI u) g post := by
  unfold V_X5_sight
  rw [hn, nI_clamp (by omega), hk, nI_clamp (by omega)]
  exact ⟨fun c => absurd c (nI_pos (by omega)), fun _ => pk_le n u (fun c => absurd c (by omega)) (fun _ => ⟨vp_in_nI (by omega) (by omega), vp_in_nI h3 (by omega), h⟩)⟩
theorem s_steps {u k : Nat} {post : Int32 → St → Prop} (hn : g.2 (3 + w) = nI n) (h24 : n ≤ 24) (hu : u < n) (hk : g.1 (6 + 10 * w) u = nI k) (h3 : k < 3) (h : post (kSteps k) g) : V_X5_steps w (nI u) g post := by
  unfold V_X5_steps
  rw [hn, nI_clamp (by omega), hk, nI_clamp (by omega)]
  exact ⟨fun c => absurd c (nI_pos (by omega)), fun _ => pk_le n u (fun c => absurd c (by omega)) (fun _ => ⟨vp_in_nI (by omega) (by omega), vp_in_nI h3 (by omega), h⟩)⟩
theorem s_power {u k : Nat} {post : Int32 → St → Prop} (hn : g.2 (3 + w) = nI n) (h24 : n ≤ 24) (hu : u < n) (hk : g.1 (6 + 10 * w) u = nI k) (h3 : k < 3) (h : post (kPowers k) g) : V_X5_power w (nI u) g post := by
  unfold V_X5_power
  rw [hn, nI_clamp (by omega), hk, nI_clamp (by omega)]
  exact ⟨fun c => absurd c (nI_pos (by omega)), fun _ => pk_le n u (fun c => absurd c (by omega)) (fun _ => ⟨vp_in_nI (by omega) (by omega), vp_in_nI h3 (by omega), h⟩)⟩
theorem s_move {u : Nat} {x : Int32} {post : St → Prop} (hn : g.2 (3 + w) = nI n) (h24 : n ≤ 24) (hu : u < n) (h : post (sA g (8 + 10 * w) (upd (g.1 (8 + 10 * w)) u x))) : V_X5_move w (nI u) x g post := by
  unfold V_X5_move
  rw [hn, nI_clamp (by omega)]
  exact ⟨fun c => absurd c (nI_pos (by omega)), fun _ => pk_le n u (fun c => absurd c (by omega)) (fun _ => ⟨vp_in_nI (by omega) (by omega), h⟩)⟩
theorem s_on {x : Int32} {post : Int32 → St → Prop} (hn : g.2 (3 + w) = nI n) (h24 : n ≤ 24) (hx : ¬ x = -1) (h : post (iI n (fN (fun u => decide (g.1 (8 + 10 * w) u = x)) n)) g) : V_X5_on w x g post := by
  unfold V_X5_on
  refine lp_for n (fun k z => z = (x, nI k, g) ∧ post (iI n (fNf (fun u => decide (g.1 (8 + 10 * w) u = x)) (n - k) k)) g) ?_ ?_ ⟨rfl, h⟩
  · rintro K k _ hk ⟨rfl, hp⟩ hK
    show J_X5_on_2 w x post K x (nI k) g
    unfold J_X5_on_2 J_X5_on_27
    rw [hn, nI_clamp (by omega)]
    refine pk_le n k (fun c => absurd c (by omega)) (fun _ => ⟨vp_in_nI (by omega) (by omega), ?_⟩)
    rw [fNf_step _ hk] at hp
    refine ⟨fun c => hK _ ⟨by rw [nI_up], ?_⟩, fun c => ⟨fun c2 => absurd c2 hx, fun _ => ?_⟩⟩
    · simpa [c] using hp
    · simpa [c, iI_in hk] using hp
  · rintro K _ ⟨rfl, hp⟩
    show J_X5_on_2 w x post K x (nI n) g
    unfold J_X5_on_2 J_X5_on_27
    rw [hn]
    rw [fNf_end, iI_out (Nat.le_refl _)] at hp
    exact pk_le n n (fun _ => hp) (fun c => absurd c (by omega))
theorem s_isMover {u : Nat} {post : Int32 → St → Prop} (hn : g.2 (3 + w) = nI n) (h24 : n ≤ 24) (hu : u < n) (h : post (if g.1 (9 + 10 * w) u = g.1 (8 + 10 * w) u then 0 else 1) g) : V_X1_isMover w (nI u) g post := by
  unfold V_X1_isMover
  refine ⟨vp_in_nI (by omega) (by omega), s_place hn h24 hu ?_⟩
  rw [nI_clamp (by omega)]
  exact ⟨fun c => by rw [if_pos c] at h; exact h, fun c => by rw [if_neg c] at h; exact h⟩
end UN
