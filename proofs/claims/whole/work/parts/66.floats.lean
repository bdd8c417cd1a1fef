/-! PART 66: quotients of numbers are numbers -/
theorem fp_tails : FP.Core.Fmt.tails FP.Core.b64 = 4503599627370496 := by decide
theorem fp_exps : FP.Core.Fmt.exps FP.Core.b64 = 2048 := by decide
theorem fp_qmin : FP.Core.Fmt.qmin FP.Core.b64 = -1074 := by decide
theorem fp_qmax : FP.Core.Fmt.qmax FP.Core.b64 = 971 := by decide
def fpOK (n : Nat) : Prop := n < 18446744073709551616 ∧ n % 9223372036854775808 ≤ 9218868437227405312
theorem fp_enc (s : Bool) (c : Nat) (q : Int) (hc : c < 9007199254740992) (hq : q ≤ 971) : fpOK (FP.Core.encode FP.Core.b64 (.fin s c q)) := by
  unfold FP.Core.encode FP.Core.assemble
  dsimp only
  rw [fp_tails, fp_exps, fp_qmin]
  unfold fpOK
  have hs : s.toNat ≤ 1 := by cases s <;> decide
  generalize s.toNat = sn at hs
  split
  · constructor <;> omega
  · have he : (q - -1074).toNat ≤ 2045 := by omega
    generalize (q - -1074).toNat = e at he
    constructor <;> omega
theorem fp_inf (s : Bool) : fpOK (FP.Core.encode FP.Core.b64 (.inf s)) := by
  cases s
  · exact ⟨Nat.lt_of_sub_ne_zero (by decide), Nat.le_of_ble_eq_true rfl⟩
  · exact ⟨Nat.lt_of_sub_ne_zero (by decide), Nat.le_of_ble_eq_true rfl⟩
theorem fp_rr (s : Bool) (num den : Nat) (e : Int) : fpOK (FP.Core.encode FP.Core.b64 (FP.Core.roundRatio FP.Core.b64 s num den e)) := by
  unfold FP.Core.roundRatio
  split
  · exact fp_enc s 0 _ (by decide) (by rw [fp_qmin]; decide)
  · unfold FP.Core.roundAt FP.Core.settle FP.Core.bound
    split
    · rename_i hc
      split
      · rename_i hq
        rw [fp_qmax] at hq
        exact fp_enc s _ _ hc hq
      · exact fp_inf s
    · split
      · rename_i hq
        rw [fp_qmax] at hq
        exact fp_enc s _ _ (by rw [fp_tails]; decide) hq
      · exact fp_inf s
theorem fp_dec {n : Nat} (h : fpOK n) : FP.Core.decode FP.Core.b64 n ≠ .nan := by
  unfold FP.Core.decode FP.Core.fieldE FP.Core.fieldT
  rw [fp_tails, fp_exps]
  unfold fpOK at h
  split
  · rename_i h1
    split
    · intro e; cases e
    · rename_i h2
      exfalso
      omega
  · split
    · intro e; cases e
    · intro e; cases e
theorem fp_nn {n : Nat} (h : fpOK n) : vf_n64 (UInt64.ofNat n) ∧ (UInt64.ofNat n).toNat = n := by
  have e : (UInt64.ofNat n).toNat = n := UInt64.toNat_ofNat_of_lt' h.1
  refine ⟨?_, e⟩
  unfold vf_n64
  rw [UInt64.le_iff_toNat_le, UInt64.toNat_and, e]
  have e2 : n &&& (0x7fffffffffffffff : UInt64).toNat = n % 9223372036854775808 := Nat.and_two_pow_sub_one_eq_mod n 63
  rw [e2]
  exact h.2
theorem fp_cmp (x : Int) : compare x x = Ordering.eq := by
  show compareOfLessAndEq x x = Ordering.eq
  unfold compareOfLessAndEq
  rw [if_neg (Int.lt_irrefl x), if_pos rfl]
theorem fp_self {r : UInt64} (h : fpOK r.toNat) : Op.cmpValue (FP.dcmp r r) .l = 0 := by
  have hd := fp_dec h
  have e : FP.dcmp r r = FP.Core.order (FP.Core.decode FP.Core.b64 r.toNat) (FP.Core.decode FP.Core.b64 r.toNat) := rfl
  rw [e]
  generalize FP.Core.decode FP.Core.b64 r.toNat = d at hd
  cases d with
  | nan => exact absurd rfl hd
  | inf s =>
    unfold FP.Core.order
    dsimp only
    rw [fp_cmp]; rfl
  | fin s c q =>
    unfold FP.Core.order
    dsimp only
    rw [fp_cmp]; rfl
def fpF (d : FP.Core.Datum) : Bool := match d with
  | .fin _ c _ => c != 0
  | _ => false
theorem fp_den : ∀ b : Nat, b < 241 → 0 < b → fpF (FP.Core.decode FP.Core.b64 (FP.i2d (nI b)).toNat) = true := by decide +kernel
theorem fp_l2d (v : Int64) : fpOK (FP.l2d v).toNat := by
  have h := fp_rr (decide (v.toInt < 0)) v.toInt.natAbs 1 0
  have e : (FP.l2d v).toNat = FP.Core.encode FP.Core.b64 (FP.Core.roundRatio FP.Core.b64 (decide (v.toInt < 0)) v.toInt.natAbs 1 0) := (fp_nn h).2
  rw [e]
  exact h
theorem fp_quo {v : Int64} {b : Nat} (h0 : 0 < b) (hb : b < 241) : vf_n64 (FP.ddiv (FP.l2d v) (FP.i2d (nI b))) ∧ Op.cmpValue (FP.dcmp (FP.ddiv (FP.l2d v) (FP.i2d (nI b))) (FP.ddiv (FP.l2d v) (FP.i2d (nI b)))) .l = 0 := by
  have hv := fp_dec (fp_l2d v)
  have hd := fp_den b hb h0
  have e : FP.ddiv (FP.l2d v) (FP.i2d (nI b)) = UInt64.ofNat (FP.Core.encode FP.Core.b64 (FP.Core.quotient FP.Core.b64 (FP.Core.decode FP.Core.b64 (FP.l2d v).toNat) (FP.Core.decode FP.Core.b64 (FP.i2d (nI b)).toNat))) := rfl
  have key : fpOK (FP.Core.encode FP.Core.b64 (FP.Core.quotient FP.Core.b64 (FP.Core.decode FP.Core.b64 (FP.l2d v).toNat) (FP.Core.decode FP.Core.b64 (FP.i2d (nI b)).toNat))) := by
    generalize FP.Core.decode FP.Core.b64 (FP.l2d v).toNat = x at hv
    generalize FP.Core.decode FP.Core.b64 (FP.i2d (nI b)).toNat = y at hd
    cases y with
    | nan => cases hd
    | inf s => cases hd
    | fin t d r =>
      have hd0 : d ≠ 0 := by
        intro ez
        rw [ez] at hd
        cases hd
      cases x with
      | nan => exact absurd rfl hv
      | inf s => exact fp_inf _
      | fin s c q =>
        unfold FP.Core.quotient
        dsimp only
        rw [if_neg hd0]
        exact fp_rr _ _ _ _
  rw [e]
  obtain ⟨h1, h2⟩ := fp_nn key
  exact ⟨h1, fp_self (by rw [h2]; exact key)⟩
theorem fp_same (s : Nat) (hs : s < 1000000) : FP.i2d (nI s) = FP.l2d (lN s) := by
  have e1 : (nI s).toInt = (s : Int) := nI_toInt (by omega)
  have e2 : (lN s).toInt = (s : Int) := pk_lT (by omega)
  show UInt64.ofNat (FP.Core.fromInt FP.Core.b64 (nI s).toInt) = UInt64.ofNat (FP.Core.fromInt FP.Core.b64 (lN s).toInt)
  rw [e1, e2]
theorem fp_share : ∀ a : Nat, a < 25 → ∀ b : Nat, b < 25 → 0 < b → (FP.fdiv (FP.i2f (nI a)) (FP.i2f (nI b)) &&& 0x7fffffff ≤ 0x7f800000) ∧ (FP.f2d (FP.fdiv (FP.i2f (nI a)) (FP.i2f (nI b))) &&& 0x7fffffffffffffff ≤ 0x7ff0000000000000) ∧ Op.cmpValue (FP.dcmp (FP.f2d (FP.fdiv (FP.i2f (nI a)) (FP.i2f (nI b)))) (FP.f2d (FP.fdiv (FP.i2f (nI a)) (FP.i2f (nI b))))) .l = 0 := by decide +kernel
