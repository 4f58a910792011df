/-! LAYER 2: numbers. i32 n is the int of a natural number; every int is one -/
def i32 (n : Nat) : Int32 := Int32.ofNat n
theorem i_int {a : Nat} (h : a < 2147483648) : (i32 a).toInt = a := Int32.toInt_ofNat_of_lt h
theorem i_bv (a : Nat) : (i32 a).toBitVec = BitVec.ofNat 32 a := rfl
theorem i_add (a b : Nat) : i32 a + i32 b = i32 (a + b) := (Int32.ofNat_add a b).symm
theorem i_mul (a b : Nat) : i32 a * i32 b = i32 (a * b) := (Int32.ofNat_mul a b).symm
theorem i_lit (n : Nat) : (OfNat.ofNat n : Int32) = i32 (OfNat.ofNat n) := rfl
theorem i_m1 : -(i32 1) = i32 4294967295 := by decide
theorem i_m1' : (-1 : Int32) = i32 4294967295 := by decide
theorem i_nat {a : Nat} (h : a < 2147483648) : (i32 a).toNatClampNeg = a := by
  show ((i32 a).toInt).toNat = a
  rw [i_int h]; rfl
theorem i_lt {a b : Nat} (h : a < 2147483648) (k : b < 2147483648) : (i32 a < i32 b) = (a < b) := by
  rw [Int32.lt_iff_toInt_lt, i_int h, i_int k]; simp
theorem i_le {a b : Nat} (h : a < 2147483648) (k : b < 2147483648) : (i32 a ≤ i32 b) = (a ≤ b) := by
  rw [Int32.le_iff_toInt_le, i_int h, i_int k]; simp
theorem i_eq {a b : Nat} (h : a < 4294967296) (k : b < 4294967296) : (i32 a = i32 b) = (a = b) := by
  apply propext
  constructor
  · intro e
    have e' := congrArg Int32.toBitVec e
    rw [i_bv, i_bv] at e'
    have e2 := congrArg BitVec.toNat e'
    simp only [BitVec.toNat_ofNat] at e2
    omega
  · intro e; rw [e]
theorem i_sub {a b : Nat} (h : b ≤ a) : i32 a - i32 b = i32 (a - b) := by
  have e : i32 (a - b) + i32 b = i32 a := by rw [i_add, Nat.sub_add_cancel h]
  rw [← e]; simp
/-- every int is of a natural number -/
def nI32 (v : Int32) : Nat := v.toBitVec.toNat
theorem nI32_lt (v : Int32) : nI32 v < 4294967296 := v.toBitVec.isLt
theorem i_nI (v : Int32) : i32 (nI32 v) = v := by
  apply Int32.toBitVec_inj.mp
  rw [i_bv]
  simp [nI32]
theorem nI_i {a : Nat} (h : a < 4294967296) : nI32 (i32 a) = a := by
  unfold nI32; rw [i_bv]; simp; omega
theorem i_ix {a n : Nat} (h : a < n) (k : n ≤ 2147483648) : (i32 a < i32 0 ∨ n ≤ (i32 a).toNatClampNeg) = False := by
  rw [i_nat (by omega), i_lt (by omega) (by omega)]
  apply eq_false; omega
theorem i_div {a b : Nat} (h : a < 2147483648) (k : b < 2147483648) (hb : 0 < b) : i32 a / i32 b = i32 (a / b) := by
  apply Int32.toInt_inj.mp
  rw [Int32.toInt_div, i_int h, i_int k, i_int (Nat.lt_of_le_of_lt (Nat.div_le_self a b) h)]
  rw [Int.tdiv_eq_ediv_of_nonneg (by omega)]
  rw [← Int.natCast_ediv]
  have hq : a / b < 2147483648 := Nat.lt_of_le_of_lt (Nat.div_le_self a b) h
  generalize a / b = q at hq ⊢
  exact Int.bmod_eq_of_le (by omega) (by omega)
theorem i_mod {a b : Nat} (h : a < 2147483648) (k : b < 2147483648) (hb : 0 < b) : i32 a - i32 a / i32 b * i32 b = i32 (a % b) := by
  rw [i_div h k hb, i_mul, i_sub (Nat.div_mul_le_self a b), Nat.mod_eq_sub_div_mul]
theorem i_and (a b : Nat) : i32 a &&& i32 b = i32 (a &&& b) := by
  apply Int32.toBitVec_inj.mp
  rw [Int32.toBitVec_and, i_bv, i_bv, i_bv]
  apply BitVec.eq_of_getLsbD_eq
  intro i hi
  simp [BitVec.getLsbD_ofNat, hi]
theorem i_or (a b : Nat) : i32 a ||| i32 b = i32 (a ||| b) := by
  apply Int32.toBitVec_inj.mp
  rw [Int32.toBitVec_or, i_bv, i_bv, i_bv]
  apply BitVec.eq_of_getLsbD_eq
  intro i hi
  simp [BitVec.getLsbD_ofNat, hi]
theorem i_xor (a b : Nat) : i32 a ^^^ i32 b = i32 (a ^^^ b) := by
  apply Int32.toBitVec_inj.mp
  rw [Int32.toBitVec_xor, i_bv, i_bv, i_bv]
  apply BitVec.eq_of_getLsbD_eq
  intro i hi
  simp [BitVec.getLsbD_ofNat, hi]
theorem i_shl {o : Nat} (a : Nat) (h : o < 32) : i32 a <<< (i32 o &&& i32 31) = i32 (a <<< o) := by
  have e : i32 o &&& i32 31 = i32 o := by
    rw [i_and]
    congr 1
    exact Nat.and_two_pow_sub_one_of_lt_two_pow (n := 5) h
  rw [e]
  apply Int32.toBitVec_inj.mp
  rw [Int32.toBitVec_shiftLeft, i_bv, i_bv, i_bv]
  have e2 : (BitVec.ofNat 32 o).smod 32 = BitVec.ofNat 32 o := by
    apply BitVec.eq_of_toInt_eq
    rw [BitVec.toInt_smod]
    have h1 : (BitVec.ofNat 32 o).toInt = o := i_int (a := o) (by omega)
    rw [h1]
    show Int.fmod o 32 = o
    rw [Int.fmod_eq_emod_of_nonneg _ (by omega)]
    omega
  rw [e2]
  apply BitVec.eq_of_toNat_eq
  simp only [BitVec.toNat_shiftLeft, BitVec.shiftLeft_eq', BitVec.toNat_ofNat, Nat.shiftLeft_eq]
  rw [Nat.mod_eq_of_lt (show o < 2 ^ 32 by omega), Nat.mod_mul_mod]
theorem i_shr {o : Nat} {a : Nat} (ha : a < 2147483648) (h : o < 32) : i32 a >>> (i32 o &&& i32 31) = i32 (a >>> o) := by
  have e : i32 o &&& i32 31 = i32 o := by
    rw [i_and]
    congr 1
    exact Nat.and_two_pow_sub_one_of_lt_two_pow (n := 5) h
  rw [e]
  apply Int32.toBitVec_inj.mp
  rw [Int32.toBitVec_shiftRight, i_bv, i_bv, i_bv]
  have e2 : (BitVec.ofNat 32 o).smod 32 = BitVec.ofNat 32 o := by
    apply BitVec.eq_of_toInt_eq
    rw [BitVec.toInt_smod]
    have h1 : (BitVec.ofNat 32 o).toInt = o := i_int (a := o) (by omega)
    rw [h1]
    show Int.fmod o 32 = o
    rw [Int.fmod_eq_emod_of_nonneg _ (by omega)]
    omega
  rw [e2]
  apply BitVec.eq_of_toNat_eq
  show ((BitVec.ofNat 32 a).sshiftRight (BitVec.ofNat 32 o).toNat).toNat = _
  rw [BitVec.sshiftRight_eq_of_msb_false]
  · simp only [BitVec.toNat_ushiftRight, BitVec.toNat_ofNat]
    rw [Nat.mod_eq_of_lt (show o < 2 ^ 32 by omega), Nat.mod_eq_of_lt (show a < 2 ^ 32 by omega), Nat.mod_eq_of_lt]
    rw [Nat.shiftRight_eq_div_pow]
    exact Nat.lt_of_le_of_lt (Nat.div_le_self _ _) (by omega)
  · rw [BitVec.msb_eq_decide]
    simp
    omega
/-- truth as a number -/
noncomputable def bp (P : Prop) : Nat := @ite Nat P (Classical.propDecidable P) 1 0
theorem bp_t {P : Prop} (h : P) : bp P = 1 := if_pos h
theorem bp_f {P : Prop} (h : ¬ P) : bp P = 0 := if_neg h
theorem bp_le (P : Prop) : bp P ≤ 1 := by unfold bp; split <;> omega
theorem bp_01 (P : Prop) : (i32 (bp P) = i32 0 ∨ i32 (bp P) = i32 1) = True := by
  apply eq_true
  unfold bp; split
  · right; rfl
  · left; rfl
theorem bp_eq0 (P : Prop) : (i32 (bp P) = i32 0) = ¬ P := by
  apply propext
  by_cases h : P
  · rw [bp_t h]; simp only [h, not_true, iff_false]; decide
  · rw [bp_f h]; simp [h]
theorem bp_iff {P Q : Prop} (h : P ↔ Q) : bp P = bp Q := by rw [propext h]
