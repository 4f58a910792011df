/-! Twenty bits counted; write -/
def pcN1 (w : Nat) : Nat := w - ((w >>> 1) &&& 1431655765)
def pcN2 (y : Nat) : Nat := (y &&& 858993459) + ((y >>> 2) &&& 858993459)
def pcN3 (y : Nat) : Nat := (y + (y >>> 4)) &&& 252645135
def pcN4 (y : Nat) : Nat := y + (y >>> 8)
def pcN5 (y : Nat) : Nat := y + (y >>> 16)
theorem i_ushr {o a : Nat} (ha : a < 2147483648) (h : o < 32) : ((i32 a).toUInt32 >>> ((i32 o).toUInt32 &&& Int32.toUInt32 31)).toInt32 = i32 (a >>> o) := by
  apply Int32.toBitVec_inj.mp
  rw [UInt32.toBitVec_toInt32, UInt32.toBitVec_shiftRight, UInt32.toBitVec_and]
  show (BitVec.ofNat 32 a) >>> ((BitVec.ofNat 32 o &&& 31#32) % 32#32) = BitVec.ofNat 32 (a >>> o)
  apply BitVec.eq_of_toNat_eq
  have h31 : (BitVec.ofNat 32 o &&& 31#32) = BitVec.ofNat 32 o := by
    apply BitVec.eq_of_toNat_eq
    rw [BitVec.toNat_and, BitVec.toNat_ofNat, BitVec.toNat_ofNat, Nat.mod_eq_of_lt (by omega : o < 2 ^ 32), show 31 % 2 ^ 32 = 2 ^ 5 - 1 from rfl, Nat.and_two_pow_sub_one_eq_mod, Nat.mod_eq_of_lt (by omega)]
  rw [h31]
  have hm : (BitVec.ofNat 32 o % 32#32).toNat = o := by
    rw [BitVec.toNat_umod, BitVec.toNat_ofNat, BitVec.toNat_ofNat, Nat.mod_eq_of_lt (by omega : o < 2 ^ 32)]
    show o % 32 = o
    exact Nat.mod_eq_of_lt h
  rw [BitVec.ushiftRight_eq', hm, BitVec.toNat_ushiftRight, BitVec.toNat_ofNat, BitVec.toNat_ofNat, Nat.mod_eq_of_lt (by omega : a < 2 ^ 32), Nat.mod_eq_of_lt]
  rw [Nat.shiftRight_eq_div_pow]
  exact Nat.lt_of_le_of_lt (Nat.div_le_self _ _) (by omega)
/-- a number's low byte apart -/
theorem land_8 (a b m c : Nat) (hb : b < 256) (hc : c < 256) : (256 * a + b) &&& (256 * m + c) = 256 * (a &&& m) + (b &&& c) := by
  have hbc : b &&& c < 2 ^ 8 := Nat.lt_of_le_of_lt Nat.and_le_left hb
  apply Nat.eq_of_testBit_eq
  intro j
  rw [Nat.testBit_and, show (256 : Nat) = 2 ^ 8 from rfl, Nat.testBit_two_pow_mul_add _ hb, Nat.testBit_two_pow_mul_add _ hc, Nat.testBit_two_pow_mul_add _ hbc]
  by_cases h : j < 8
  · rw [if_pos h, if_pos h, if_pos h, Nat.testBit_and]
  · rw [if_neg h, if_neg h, if_neg h, Nat.testBit_and]
theorem shr_8 (a b m c o : Nat) (ho : o ≤ 8) (hb : b < 256) (hc : c < 2 ^ (8 - o)) : ((256 * a + b) >>> o) &&& (256 * m + c) = 256 * ((a >>> o) &&& m) + ((b >>> o) &&& c) := by
  have hc8 : c < 2 ^ 8 := Nat.lt_of_lt_of_le hc (Nat.pow_le_pow_right (by omega) (by omega))
  have hbc : (b >>> o) &&& c < 2 ^ 8 := Nat.lt_of_le_of_lt Nat.and_le_right hc8
  apply Nat.eq_of_testBit_eq
  intro j
  rw [Nat.testBit_and, Nat.testBit_shiftRight, show (256 : Nat) = 2 ^ 8 from rfl, Nat.testBit_two_pow_mul_add _ hb, Nat.testBit_two_pow_mul_add _ hc8, Nat.testBit_two_pow_mul_add _ hbc]
  by_cases h : j < 8
  · rw [if_pos h, if_pos h, Nat.testBit_and, Nat.testBit_shiftRight]
    by_cases h' : o + j < 8
    · rw [if_pos h']
    · rw [Nat.testBit_lt_two_pow (Nat.lt_of_lt_of_le hc (Nat.pow_le_pow_right (by omega) (by omega : 8 - o ≤ j))), Bool.and_false, Bool.and_false]
  · rw [if_neg h, if_neg h, if_neg (by omega), Nat.testBit_and, Nat.testBit_shiftRight, show o + j - 8 = o + (j - 8) by omega]
def pb (b : Nat) : Nat := pcN3 (pcN2 (pcN1 b))
theorem pcb : ∀ b : Fin 256, pcN1 b.val < 256 ∧ pcN2 (pcN1 b.val) ≤ 68 ∧ (b.val >>> 1 &&& 85) ≤ b.val ∧ (pcN2 (pcN1 b.val) + (pcN2 (pcN1 b.val) >>> 4)) < 256 ∧ pb b.val = (b.val.testBit 0).toNat + (b.val.testBit 1).toNat + (b.val.testBit 2).toNat + (b.val.testBit 3).toNat + (b.val.testBit 4).toNat + (b.val.testBit 5).toNat + (b.val.testBit 6).toNat + (b.val.testBit 7).toNat ∧ pcN1 b.val = b.val - (b.val >>> 1 &&& 85) ∧ pcN2 (pcN1 b.val) = (pcN1 b.val &&& 51) + (pcN1 b.val >>> 2 &&& 51) ∧ pb b.val = (pcN2 (pcN1 b.val) + (pcN2 (pcN1 b.val) >>> 4)) &&& 15 ∧ pcN2 (pcN1 b.val) % 16 ≤ 4 := by decide +kernel
theorem pcs {w b0 b1 b2 : Nat} (h0 : b0 < 256) (h1 : b1 < 256) (h2 : b2 < 256) (hw : w = 256 * (256 * b2 + b1) + b0) : pcN1 w = 256 * (256 * pcN1 b2 + pcN1 b1) + pcN1 b0 ∧ pcN2 (pcN1 w) = 256 * (256 * pcN2 (pcN1 b2) + pcN2 (pcN1 b1)) + pcN2 (pcN1 b0) ∧ pb w = 256 * (256 * pb b2 + pb b1) + pb b0 := by
  obtain ⟨x1, x2, x3, x4, x5, x6, x7, x8, x9⟩ := pcb ⟨b0, h0⟩
  obtain ⟨y1, y2, y3, y4, y5, y6, y7, y8, y9⟩ := pcb ⟨b1, h1⟩
  obtain ⟨z1, z2, z3, z4, z5, z6, z7, z8, z9⟩ := pcb ⟨b2, h2⟩
  dsimp only at x1 x2 x3 x4 x5 x6 x7 x8 x9 y1 y2 y3 y4 y5 y6 y7 y8 y9 z1 z2 z3 z4 z5 z6 z7 z8 z9
  have e1 : pcN1 w = 256 * (256 * pcN1 b2 + pcN1 b1) + pcN1 b0 := by
    have a1 := shr_8 (256 * b2 + b1) b0 5592405 85 1 (by omega) h0 (by decide)
    have a2 := shr_8 b2 b1 21845 85 1 (by omega) h1 (by decide)
    have a3 := shr_8 0 b2 85 85 1 (by omega) h2 (by decide)
    rw [show 256 * 5592405 + 85 = 1431655765 from rfl] at a1
    rw [show 256 * 21845 + 85 = 5592405 from rfl] at a2
    rw [show 256 * 85 + 85 = 21845 from rfl, Nat.mul_zero, Nat.zero_add, Nat.zero_shiftRight, Nat.zero_and, Nat.mul_zero, Nat.zero_add] at a3
    have e : pcN1 w = w - ((w >>> 1) &&& 1431655765) := rfl
    rw [e, hw, a1, a2, a3, x6, y6, z6]
    omega
  have e2 : pcN2 (pcN1 w) = 256 * (256 * pcN2 (pcN1 b2) + pcN2 (pcN1 b1)) + pcN2 (pcN1 b0) := by
    rw [e1]
    generalize pcN1 b0 = u0 at *
    generalize pcN1 b1 = u1 at *
    generalize pcN1 b2 = u2 at *
    have a1 := shr_8 (256 * u2 + u1) u0 3355443 51 2 (by omega) x1 (by decide)
    have a2 := shr_8 u2 u1 13107 51 2 (by omega) y1 (by decide)
    have a3 := shr_8 0 u2 51 51 2 (by omega) z1 (by decide)
    have c1 := land_8 (256 * u2 + u1) u0 3355443 51 x1 (by omega)
    have c2 := land_8 u2 u1 13107 51 y1 (by omega)
    have c3 := land_8 0 u2 51 51 z1 (by omega)
    rw [show 256 * 3355443 + 51 = 858993459 from rfl] at a1 c1
    rw [show 256 * 13107 + 51 = 3355443 from rfl] at a2 c2
    rw [show 256 * 51 + 51 = 13107 from rfl, Nat.mul_zero, Nat.zero_add] at a3 c3
    rw [Nat.zero_shiftRight, Nat.zero_and, Nat.mul_zero, Nat.zero_add] at a3
    rw [Nat.zero_and, Nat.mul_zero, Nat.zero_add] at c3
    have e : pcN2 (256 * (256 * u2 + u1) + u0) = ((256 * (256 * u2 + u1) + u0) &&& 858993459) + (((256 * (256 * u2 + u1) + u0) >>> 2) &&& 858993459) := rfl
    rw [e, a1, a2, a3, c1, c2, c3, x7, y7, z7]
    omega
  refine ⟨e1, e2, ?_⟩
  show pcN3 (pcN2 (pcN1 w)) = _
  rw [e2, x8, y8, z8]
  generalize pcN2 (pcN1 b0) = v0 at *
  generalize pcN2 (pcN1 b1) = v1 at *
  generalize pcN2 (pcN1 b2) = v2 at *
  have sh : ∀ n : Nat, n >>> 4 = n / 16 := fun n => by rw [Nat.shiftRight_eq_div_pow]
  have e : pcN3 (256 * (256 * v2 + v1) + v0) = ((256 * (256 * v2 + v1) + v0) + ((256 * (256 * v2 + v1) + v0) >>> 4)) &&& 252645135 := rfl
  rw [e]
  simp only [sh] at x4 y4 z4 ⊢
  have m15 : ∀ n : Nat, n &&& 15 = n % 16 := fun n => Nat.and_two_pow_sub_one_eq_mod n 4
  have s1 : 256 * (256 * v2 + v1) + v0 + (256 * (256 * v2 + v1) + v0) / 16 = 256 * ((256 * v2 + v1) + (256 * v2 + v1) / 16) + (v0 + v0 / 16 + 16 * ((256 * v2 + v1) % 16)) := by omega
  have s2 : (256 * v2 + v1) + (256 * v2 + v1) / 16 = 256 * (v2 + v2 / 16) + (v1 + v1 / 16 + 16 * (v2 % 16)) := by omega
  have c1 := land_8 ((256 * v2 + v1) + (256 * v2 + v1) / 16) (v0 + v0 / 16 + 16 * ((256 * v2 + v1) % 16)) 986895 15 (by omega) (by omega)
  have c2 := land_8 (v2 + v2 / 16) (v1 + v1 / 16 + 16 * (v2 % 16)) 3855 15 (by omega) (by omega)
  have c3 := land_8 0 (v2 + v2 / 16) 15 15 (by omega) (by omega)
  rw [show 256 * 986895 + 15 = 252645135 from rfl] at c1
  rw [show 256 * 3855 + 15 = 986895 from rfl] at c2
  rw [show 256 * 15 + 15 = 3855 from rfl, Nat.mul_zero, Nat.zero_add, Nat.zero_and, Nat.mul_zero, Nat.zero_add] at c3
  rw [s1, c1, s2, c2, c3, m15, m15, m15, m15, m15]
  omega
section
variable {x : Cx} {k B : Nat} {C W : Ab} {M : Mm}
theorem pc_i {w : Nat} (hw : w < 1048576) : fJ6_bitCount_0f7a4 x k (i32 w) M = some (i32 (pcN5 (pcN4 (pb w)) &&& 63), M) := by
  obtain ⟨p1, p2, p3⟩ := pcs (w := w) (b0 := w % 256) (b1 := w / 256 % 256) (b2 := w / 65536) (by omega) (by omega) (by omega) (by omega)
  obtain ⟨x1, x2, x3, x4, x5, x6, x7, x8, x9⟩ := pcb ⟨w % 256, by omega⟩
  obtain ⟨y1, y2, y3, y4, y5, y6, y7, y8, y9⟩ := pcb ⟨w / 256 % 256, by omega⟩
  obtain ⟨z1, z2, z3, z4, z5, z6, z7, z8, z9⟩ := pcb ⟨w / 65536, by omega⟩
  dsimp only at x1 x2 y1 y2 z1 z2 x8 y8 z8
  have b3 : pb w < 16777216 := by
    have q0 : pb (w % 256) ≤ 15 := by rw [x8]; exact Nat.and_le_right
    have q1 : pb (w / 256 % 256) ≤ 15 := by rw [y8]; exact Nat.and_le_right
    have q2 : pb (w / 65536) ≤ 15 := by rw [z8]; exact Nat.and_le_right
    omega
  have hsub : (w >>> 1) &&& 1431655765 ≤ w := Nat.le_trans Nat.and_le_left (by rw [Nat.shiftRight_eq_div_pow]; exact Nat.div_le_self _ _)
  have l1 : (1431655765 : Int32) = i32 1431655765 := rfl
  have l2 : (858993459 : Int32) = i32 858993459 := rfl
  have l3 : (252645135 : Int32) = i32 252645135 := rfl
  have l4 : (63 : Int32) = i32 63 := rfl
  have d1 : (1 : Int32) = i32 1 := rfl
  have d2 : (2 : Int32) = i32 2 := rfl
  have d4 : (4 : Int32) = i32 4 := rfl
  have d8 : (8 : Int32) = i32 8 := rfl
  have d16 : (16 : Int32) = i32 16 := rfl
  have e1 : i32 w - (((i32 w).toUInt32 >>> ((1 : Int32).toUInt32 &&& Int32.toUInt32 31)).toInt32 &&& 1431655765) = i32 (pcN1 w) := by
    rw [d1, i_ushr (by omega) (by omega), l1, i_and, i_sub hsub]; rfl
  have b1 : pcN1 w < 16777216 := by omega
  have e2 : (i32 (pcN1 w) &&& 858993459) + (((i32 (pcN1 w)).toUInt32 >>> ((2 : Int32).toUInt32 &&& Int32.toUInt32 31)).toInt32 &&& 858993459) = i32 (pcN2 (pcN1 w)) := by
    rw [d2, i_ushr (by omega) (by omega), l2, i_and, i_and, i_add]; rfl
  have b2 : pcN2 (pcN1 w) < 16777216 := by omega
  have e3 : (i32 (pcN2 (pcN1 w)) + ((i32 (pcN2 (pcN1 w))).toUInt32 >>> ((4 : Int32).toUInt32 &&& Int32.toUInt32 31)).toInt32) &&& 252645135 = i32 (pb w) := by
    rw [d4, i_ushr (by omega) (by omega), l3, i_add, i_and]; rfl
  have e4 : i32 (pb w) + ((i32 (pb w)).toUInt32 >>> ((8 : Int32).toUInt32 &&& Int32.toUInt32 31)).toInt32 = i32 (pcN4 (pb w)) := by
    rw [d8, i_ushr (by omega) (by omega), i_add]; rfl
  have b4 : pcN4 (pb w) < 2147483648 := by
    have : pcN4 (pb w) = pb w + pb w >>> 8 := rfl
    rw [this, Nat.shiftRight_eq_div_pow]; omega
  have e5 : i32 (pcN4 (pb w)) + ((i32 (pcN4 (pb w))).toUInt32 >>> ((16 : Int32).toUInt32 &&& Int32.toUInt32 31)).toInt32 = i32 (pcN5 (pcN4 (pb w))) := by
    rw [d16, i_ushr (by omega) (by omega), i_add]; rfl
  unfold fJ6_bitCount_0f7a4
  rw [e1, e2, e3, e4, e5, l4, i_and]
theorem c_bits20 {w : Nat} {f : Nat → Prop} (hw : Bt w 20 f) : fJ6_bitCount_0f7a4 x k (i32 w) M = some (i32 (ct f 20), M) := by
  have hw' : w < 1048576 := hw.1
  rw [pc_i hw']
  obtain ⟨p1, p2, p3⟩ := pcs (w := w) (b0 := w % 256) (b1 := w / 256 % 256) (b2 := w / 65536) (by omega) (by omega) (by omega) (by omega)
  obtain ⟨-, -, -, -, x5, -⟩ := pcb ⟨w % 256, by omega⟩
  obtain ⟨-, -, -, -, y5, -⟩ := pcb ⟨w / 256 % 256, by omega⟩
  obtain ⟨-, -, -, -, z5, -⟩ := pcb ⟨w / 65536, by omega⟩
  dsimp only at x5 y5 z5
  have t0 : ∀ j, j < 8 → (w % 256).testBit j = w.testBit j := fun j hj => by
    rw [show (256 : Nat) = 2 ^ 8 from rfl, Nat.testBit_mod_two_pow, decide_eq_true hj, Bool.true_and]
  have t1 : ∀ j, j < 8 → (w / 256 % 256).testBit j = w.testBit (8 + j) := fun j hj => by
    rw [show w / 256 % 256 = w / 2 ^ 8 % 2 ^ 8 from rfl, Nat.testBit_mod_two_pow, decide_eq_true hj, Bool.true_and, Nat.testBit_div_two_pow, Nat.add_comm]
  have t2 : ∀ j, (w / 65536).testBit j = w.testBit (16 + j) := fun j => by
    rw [show w / 65536 = w / 2 ^ 16 from rfl, Nat.testBit_div_two_pow, Nat.add_comm]
  have hi : ∀ j, 20 ≤ j → w.testBit j = false := fun j hj => tb_hi hw.1 hj
  rw [t0 _ (by omega), t0 _ (by omega), t0 _ (by omega), t0 _ (by omega), t0 _ (by omega), t0 _ (by omega), t0 _ (by omega), t0 _ (by omega)] at x5
  rw [t1 _ (by omega), t1 _ (by omega), t1 _ (by omega), t1 _ (by omega), t1 _ (by omega), t1 _ (by omega), t1 _ (by omega), t1 _ (by omega)] at y5
  rw [t2, t2, t2, t2, t2, t2, t2, t2, hi (16 + 4) (by omega), hi (16 + 5) (by omega), hi (16 + 6) (by omega), hi (16 + 7) (by omega)] at z5
  have bn' : ∀ j, j < 20 → (w.testBit j).toNat = bp (f j) := fun j hj => bn (hw.2 j hj)
  rw [bn' _ (by omega), bn' _ (by omega), bn' _ (by omega), bn' _ (by omega), bn' _ (by omega), bn' _ (by omega), bn' _ (by omega), bn' _ (by omega)] at x5 y5
  rw [bn' _ (by omega), bn' _ (by omega), bn' _ (by omega), bn' _ (by omega)] at z5
  have hct : ct f 20 = 0 + bp (f 0) + bp (f 1) + bp (f 2) + bp (f 3) + bp (f 4) + bp (f 5) + bp (f 6) + bp (f 7) + bp (f 8) + bp (f 9) + bp (f 10) + bp (f 11) + bp (f 12) + bp (f 13) + bp (f 14) + bp (f 15) + bp (f 16) + bp (f 17) + bp (f 18) + bp (f 19) := rfl
  have tot : ct f 20 = pb (w % 256) + pb (w / 256 % 256) + pb (w / 65536) := by
    rw [hct, x5, y5, z5]
    simp only [Bool.toNat_false, Nat.reduceAdd]
    omega
  have le := ct_le f 20
  generalize pb (w % 256) = g0 at *
  generalize pb (w / 256 % 256) = g1 at *
  generalize pb (w / 65536) = g2 at *
  congr 3
  have m63 : ∀ n : Nat, n &&& 63 = n % 64 := fun n => Nat.and_two_pow_sub_one_eq_mod n 6
  have n4 : pcN4 (pb w) = pb w + pb w >>> 8 := rfl
  have n5 : pcN5 (pcN4 (pb w)) = pcN4 (pb w) + pcN4 (pb w) >>> 16 := rfl
  have sh8 : ∀ n : Nat, n >>> 8 = n / 256 := fun n => by rw [Nat.shiftRight_eq_div_pow]
  have sh16 : ∀ n : Nat, n >>> 16 = n / 65536 := fun n => by rw [Nat.shiftRight_eq_div_pow]
  rw [m63, n5, n4, p3, sh8, sh16, tot]
  rw [tot] at le
  clear p1 p2 p3 x5 y5 z5 t0 t1 t2 hi bn' hct tot n4 n5
  have y1 : (256 * (256 * g2 + g1) + g0) / 256 = 256 * g2 + g1 := by omega
  rw [y1]
  have y2 : (256 * (256 * g2 + g1) + g0 + (256 * g2 + g1)) / 65536 = g2 := by omega
  rw [y2]
  omega
end
