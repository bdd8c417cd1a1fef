/-! PART 59: bits (its first rows are the kit's for pasting) -/
/-! ===== Int32 by its bits: bt x i ===== -/
def bt (x : Int32) (i : Nat) : Bool := x.toBitVec.getLsbD i
theorem b_ext {x y : Int32} (h : ∀ i, i < 32 → bt x i = bt y i) : x = y := Int32.toBitVec_inj.mp (BitVec.eq_of_getLsbD_eq (fun i hi => h i hi))
theorem b_or (x y : Int32) (i : Nat) : bt (x ||| y) i = (bt x i || bt y i) := by unfold bt; rw [Int32.toBitVec_or, BitVec.getLsbD_or]
theorem b_and (x y : Int32) (i : Nat) : bt (x &&& y) i = (bt x i && bt y i) := by unfold bt; rw [Int32.toBitVec_and, BitVec.getLsbD_and]
theorem b_xor (x y : Int32) (i : Nat) : bt (x ^^^ y) i = (bt x i ^^ bt y i) := by unfold bt; rw [Int32.toBitVec_xor, BitVec.getLsbD_xor]
theorem b_big {x : Int32} {i : Nat} (h : 32 ≤ i) : bt x i = false := BitVec.getLsbD_of_ge _ _ h
theorem b_255 (i : Nat) : bt 255 i = decide (i < 8) := by
  rcases Nat.lt_or_ge i 32 with h | h
  · exact (by decide +kernel : ∀ i, i < 32 → bt 255 i = decide (i < 8)) i h
  · rw [b_big h, decide_eq_false (by omega)]
theorem b_65535 (i : Nat) : bt 65535 i = decide (i < 16) := by
  rcases Nat.lt_or_ge i 32 with h | h
  · exact (by decide +kernel : ∀ i, i < 32 → bt 65535 i = decide (i < 16)) i h
  · rw [b_big h, decide_eq_false (by omega)]
theorem b_m1 : ∀ i, i < 32 → bt (-1) i = true := by decide +kernel
theorem b_0 (i : Nat) : bt 0 i = false := BitVec.getLsbD_zero
theorem s_l : ∀ n, n < 32 → ((nI n &&& 31).toBitVec.smod 32).toNat = n := by decide +kernel
theorem s_u : ∀ n, n < 32 → (((nI n).toUInt32 &&& Int32.toUInt32 31).toBitVec % 32).toNat = n := by decide +kernel
theorem b_shl (n : Nat) (hn : n < 32) (x : Int32) {i : Nat} (hi : i < 32) : bt (x <<< (nI n &&& 31)) i = (decide (n ≤ i) && bt x (i - n)) := by
  unfold bt
  rw [Int32.toBitVec_shiftLeft]
  show (x.toBitVec <<< ((nI n &&& 31).toBitVec.smod 32).toNat).getLsbD i = _
  rw [s_l n hn, BitVec.getLsbD_shiftLeft]
  rcases Nat.lt_or_ge i n with h | h
  · simp [h, Nat.not_le.mpr h]
  · simp [hi, h, Nat.not_lt.mpr h]
theorem b_ushr (n : Nat) (hn : n < 32) (x : Int32) (i : Nat) : bt ((x.toUInt32 >>> ((nI n).toUInt32 &&& Int32.toUInt32 31)).toInt32) i = bt x (n + i) := by
  show (x.toUInt32 >>> ((nI n).toUInt32 &&& Int32.toUInt32 31)).toBitVec.getLsbD i = x.toUInt32.toBitVec.getLsbD (n + i)
  rw [UInt32.toBitVec_shiftRight]
  show (x.toUInt32.toBitVec >>> (((nI n).toUInt32 &&& Int32.toUInt32 31).toBitVec % 32).toNat).getLsbD i = _
  rw [s_u n hn, BitVec.getLsbD_ushiftRight]
theorem b_sshr (n : Nat) (hn : n < 32) (x : Int32) {i : Nat} (hi : i < 32) : bt (x >>> (nI n &&& 31)) i = if n + i < 32 then bt x (n + i) else bt x 31 := by
  unfold bt
  rw [Int32.toBitVec_shiftRight]
  show (x.toBitVec.sshiftRight ((nI n &&& 31).toBitVec.smod 32).toNat).getLsbD i = _
  rw [s_l n hn, BitVec.getLsbD_sshiftRight, BitVec.msb_eq_getLsbD_last]
  simp [hi]
theorem bt_1 (i : Nat) : bt 1 i = decide (i = 0) := by
  rcases Nat.lt_or_ge i 32 with h | h
  · exact (by decide +kernel : ∀ i, i < 32 → bt 1 i = decide (i = 0)) i h
  · rw [b_big h, decide_eq_false (by omega)]
theorem bt_tst (x : Int32) {k : Nat} (hk : k < 32) : ((x >>> (nI k &&& 31)) &&& 1) = 0 ↔ bt x k = false := by
  constructor
  · intro h
    have h2 := congrArg (fun y => bt y 0) h
    simp only [b_and, b_0] at h2
    rw [b_sshr k hk x (by omega), if_pos (by omega)] at h2
    simpa [bt_1] using h2
  · intro h
    apply b_ext
    intro i hi
    rw [b_and, b_0, bt_1]
    by_cases e : i = 0
    · subst e
      rw [b_sshr k hk x (by omega), if_pos (by omega)]
      simpa using h
    · simp [e]
theorem bt_sh {k i : Nat} (hk : k < 32) (hi : i < 32) : bt ((1 : Int32) <<< (nI k &&& 31)) i = decide (i = k) := by
  rw [b_shl k hk 1 hi, bt_1]
  by_cases e : i = k
  · subst e; simp
  · by_cases e2 : k ≤ i
    · have : ¬ i - k = 0 := by omega
      simp [e, e2, this]
    · simp [e, e2]
theorem bt_set (x : Int32) {k i : Nat} (hk : k < 32) (hi : i < 32) : bt (x ||| ((1 : Int32) <<< (nI k &&& 31))) i = (bt x i || decide (i = k)) := by
  rw [b_or, bt_sh hk hi]
theorem bt_clr (x : Int32) {k i : Nat} (hk : k < 32) (hi : i < 32) : bt (x &&& (((1 : Int32) <<< (nI k &&& 31)) ^^^ (-1))) i = (bt x i && !decide (i = k)) := by
  rw [b_and, b_xor, bt_sh hk hi, b_m1 i hi, Bool.xor_true]
theorem bt_zero {x : Int32} : x = 0 ↔ ∀ i, i < 32 → bt x i = false := by
  constructor
  · intro h i _
    rw [h, b_0]
  · intro h
    apply b_ext
    intro i hi
    rw [h i hi, b_0]
def bN (b : Bool) : Nat := if b then 1 else 0
theorem bt_hi : ∀ m, m < 16 → ∀ i, i < 32 → 4 ≤ i → bt (nI m) i = false := by decide +kernel
theorem bt_lo : ∀ b0 b1 b2 b3 : Bool, bt (nI (bN b0 + 2 * bN b1 + 4 * bN b2 + 8 * bN b3)) 0 = b0 ∧ bt (nI (bN b0 + 2 * bN b1 + 4 * bN b2 + 8 * bN b3)) 1 = b1 ∧ bt (nI (bN b0 + 2 * bN b1 + 4 * bN b2 + 8 * bN b3)) 2 = b2 ∧ bt (nI (bN b0 + 2 * bN b1 + 4 * bN b2 + 8 * bN b3)) 3 = b3 := by decide +kernel
theorem bN_le (b : Bool) : bN b ≤ 1 := by cases b <;> decide
theorem bt_four {x : Int32} {b : Nat → Bool} (h : ∀ i, i < 32 → bt x i = (decide (i < 4) && b i)) : x = nI (bN (b 0) + 2 * bN (b 1) + 4 * bN (b 2) + 8 * bN (b 3)) := by
  apply b_ext
  intro i hi
  rw [h i hi]
  have h0 := bN_le (b 0)
  have h1 := bN_le (b 1)
  have h2 := bN_le (b 2)
  have h3 := bN_le (b 3)
  obtain ⟨l0, l1, l2, l3⟩ := bt_lo (b 0) (b 1) (b 2) (b 3)
  by_cases e : i < 4
  · rw [decide_eq_true e, Bool.true_and]
    rcases (show i = 0 ∨ i = 1 ∨ i = 2 ∨ i = 3 by omega) with rfl | rfl | rfl | rfl
    · exact l0.symm
    · exact l1.symm
    · exact l2.symm
    · exact l3.symm
  · rw [decide_eq_false e, Bool.false_and]
    exact (bt_hi _ (by omega) i hi (by omega)).symm
def bc1 (x1 : Int32) : Int32 := (x1 - (((Int32.toUInt32 x1 >>> (Int32.toUInt32 1 &&& Int32.toUInt32 31)).toInt32) &&& 1431655765))
def bc2 (y1 : Int32) : Int32 := ((y1 &&& 858993459) + (((Int32.toUInt32 y1 >>> (Int32.toUInt32 2 &&& Int32.toUInt32 31)).toInt32) &&& 858993459))
def bc3 (y2 : Int32) : Int32 := ((y2 + ((Int32.toUInt32 y2 >>> (Int32.toUInt32 4 &&& Int32.toUInt32 31)).toInt32)) &&& 252645135)
def bc4 (y3 : Int32) : Int32 := (y3 + ((Int32.toUInt32 y3 >>> (Int32.toUInt32 8 &&& Int32.toUInt32 31)).toInt32))
def bc5 (y4 : Int32) : Int32 := (y4 + ((Int32.toUInt32 y4 >>> (Int32.toUInt32 16 &&& Int32.toUInt32 31)).toInt32))
theorem bc_ok : ∀ b0 b1 b2 b3 : Bool, bc5 (bc4 (bc3 (bc2 (bc1 (nI (bN b0 + 2 * bN b1 + 4 * bN b2 + 8 * bN b3)))))) &&& 63 = nI (bN b0 + bN b1 + bN b2 + bN b3) := by decide +kernel
theorem s_bits {x : Int32} {b : Nat → Bool} {post : Int32 → Prop} (h : ∀ i, i < 32 → bt x i = (decide (i < 4) && b i)) (hp : post (nI (bN (b 0) + bN (b 1) + bN (b 2) + bN (b 3)))) : V_J6_bitCount_0f7a4 x post := by
  rw [bt_four h]
  unfold V_J6_bitCount_0f7a4
  intro y1 h1 y2 h2 y3 h3 y4 h4 y5 h5
  have e : y5 &&& 63 = nI (bN (b 0) + bN (b 1) + bN (b 2) + bN (b 3)) := by
    rw [h5, h4, h3, h2, h1]
    exact bc_ok _ _ _ _
  rw [e]
  exact hp
