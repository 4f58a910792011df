/-! Twenty bits counted; write -/
def pcN1 (w : Nat) : Nat := w - ((w >>> 1) &&& 1431655765)
def pcN2 (y : Nat) : Nat := (y &&& 858993459) + ((y >>> 2) &&& 858993459)
def pcN3 (y : Nat) : Nat := (y + (y >>> 4)) &&& 252645135
def pcN4 (y : Nat) : Nat := y + (y >>> 8)
def pcN5 (y : Nat) : Nat := y + (y >>> 16)
theorem i_ushr {o a : Nat} (ha : a < 2147483648) (h : o < 32) : ((i32 a).toUInt32 >>> ((i32 o).toUInt32 &&& Int32.toUInt32 31)).toInt32 = i32 (a >>> o) := by
  apply Int32.toBitVec_inj.mp
  rw [UInt32.toBitVec_toInt32, UInt32.toBitVec_shiftRight, UInt32.toBitVec_and]
  show (BitVec.ofNat 32 a) >>> ((BitVec.ofNat 32 o &&& 31#32) % 32#32) = BitVec.ofNat 32 (a >>> o)
  apply BitVec.eq_of_toNat_eq
  have h31 : (BitVec.ofNat 32 o &&& 31#32) = BitVec.ofNat 32 o := by
    apply BitVec.eq_of_toNat_eq
    rw [BitVec.toNat_and, BitVec.toNat_ofNat, BitVec.toNat_ofNat, Nat.mod_eq_of_lt (by omega : o < 2 ^ 32), show 31 % 2 ^ 32 = 2 ^ 5 - 1 from rfl, Nat.and_two_pow_sub_one_eq_mod, Nat.mod_eq_of_lt (by omega)]
  rw [h31]
  have hm : (BitVec.ofNat 32 o % 32#32).toNat = o := by
    rw [BitVec.toNat_umod, BitVec.toNat_ofNat, BitVec.toNat_ofNat, Nat.mod_eq_of_lt (by omega : o < 2 ^ 32)]
    show o % 32 = o
    exact Nat.mod_eq_of_lt h
  rw [BitVec.ushiftRight_eq', hm, BitVec.toNat_ushiftRight, BitVec.toNat_ofNat, BitVec.toNat_ofNat, Nat.mod_eq_of_lt (by omega : a < 2 ^ 32), Nat.mod_eq_of_lt]
  rw [Nat.shiftRight_eq_div_pow]
  exact Nat.lt_of_le_of_lt (Nat.div_le_self _ _) (by omega)
/-- a number's low byte apart -/
theorem land_8 (a b m c : Nat) (hb : b < 256) (hc : c < 256) : (256 * a + b) &&& (256 * m + c) = 256 * (a &&& m) + (b &&& c) := by
  have hbc : b &&& c < 2 ^ 8 := Nat.lt_of_le_of_lt Nat.and_le_left hb
  apply Nat.eq_of_testBit_eq
  intro j
  rw [Nat.testBit_and, show (256 : Nat) = 2 ^ 8 from rfl, Nat.testBit_two_pow_mul_add _ hb, Nat.testBit_two_pow_mul_add _ hc, Nat.testBit_two_pow_mul_add _ hbc]
  by_cases h : j < 8
  · rw [if_pos h, if_pos h, if_pos h, Nat.testBit_and]
  · rw [if_neg h, if_neg h, if_neg h, Nat.testBit_and]
theorem shr_8 (a b m c o : Nat) (ho : o ≤ 8) (hb : b < 256) (hc : c < 2 ^ (8 - o)) : ((256 * a + b) >>> o) &&& (256 * m + c) = 256 * ((a >>> o) &&& m) + ((b >>> o) &&& c) := by
  have hc8 : c < 2 ^ 8 := Nat.lt_of_lt_of_le hc (Nat.pow_le_pow_right (by omega) (by omega))
  have hbc : (b >>> o) &&& c < 2 ^ 8 := Nat.lt_of_le_of_lt Nat.and_le_right hc8
  apply Nat.eq_of_testBit_eq
  intro j
  rw [Nat.testBit_and, Nat.testBit_shiftRight, show (256 : Nat) = 2 ^ 8 from rfl, Nat.testBit_two_pow_mul_add _ hb, Nat.testBit_two_pow_mul_add _ hc8, Nat.testBit_two_pow_mul_add _ hbc]
  by_cases h : j < 8
  · rw [if_pos h, if_pos h, Nat.testBit_and, Nat.testBit_shiftRight]
    by_cases h' : o + j < 8
    · rw [if_pos h']
    · rw [Nat.testBit_lt_two_pow (Nat.lt_of_lt_of_le hc (Nat.pow_le_pow_right (by omega) (by omega : 8 - o ≤ j))), Bool.and_false, Bool.and_false]
  · rw [if_neg h, if_neg h, if_neg (by omega), Nat.testBit_and, Nat.testBit_shiftRight, show o + j - 8 = o + (j - 8) by omega]
def pb (b : Nat) : Nat := pcN3 (pcN2 (pcN1 b))
theorem pcb : ∀ b : Fin 256, pcN1 b.val < 256 ∧ pcN2 (pcN1 b.val) < 120 ∧ (b.val >>> 1 &&& 85) ≤ b.val ∧ (pcN2 (pcN1 b.val) + (pcN2 (pcN1 b.val) >>> 4)) < 256 ∧ pb b.val = (b.val.testBit 0).toNat + (b.val.testBit 1).toNat + (b.val.testBit 2).toNat + (b.val.testBit 3).toNat + (b.val.testBit 4).toNat + (b.val.testBit 5).toNat + (b.val.testBit 6).toNat + (b.val.testBit 7).toNat ∧ pcN1 b.val = b.val - (b.val >>> 1 &&& 85) ∧ pcN2 (pcN1 b.val) = (pcN1 b.val &&& 51) + (pcN1 b.val >>> 2 &&& 51) ∧ pb b.val = (pcN2 (pcN1 b.val) + (pcN2 (pcN1 b.val) >>> 4)) &&& 15 := by decide +kernel
