/-! The reference's methods over the state, one by one -/
theorem le_t {a b : Nat} (h : a ≤ b) : (a ≤ b) = True := eq_true h
theorem le_f {a b : Nat} (h : ¬ a ≤ b) : (a ≤ b) = False := eq_false h
theorem lt_t {a b : Nat} (h : a < b) : (a < b) = True := eq_true h
theorem lt_f {a b : Nat} (h : ¬ a < b) : (a < b) = False := eq_false h
theorem eq_t {a b : Nat} (h : a = b) : (a = b) = True := eq_true h
theorem eq_f {a b : Nat} (h : ¬ a = b) : (a = b) = False := eq_false h
theorem e_ip {α : Type} {c : Prop} {d : Decidable c} {a b r : α} (hc : c) (h : a = r) : (if c then a else b) = r := (if_pos hc).trans h
theorem e_in {α : Type} {c : Prop} {d : Decidable c} {a b r : α} (hc : ¬ c) (h : b = r) : (if c then a else b) = r := (if_neg hc).trans h
theorem e_o1 {α β : Type} {q : Option α} {a : α} {g : α → Option β} {r : Option β} (hq : q = some a) (h : g a = r) : ob1 q g = r := by rw [hq]; exact h
theorem e_o2 {α β : Type} {q q' : Option (α × Mm)} {a : α} {M : Mm} {g : α → Mm → Option β} {r : Option β} (h0 : q = q') (hq : q' = some (a, M)) (h : g a M = r) : ob2 q g = r := by rw [h0, hq]; exact h
theorem e_k {α : Type} {M M' : Mm} {a c : Nat} {d : Decidable (mK M' a = c)} {t e r : α} (hM : mK M' = mK M) (hk : mK M a = c) (h : t = r) : (if mK M' a = c then t else e) = r := (if_pos (by rw [hM]; exact hk)).trans h
theorem e_p {β : Type} {M M' : Mm} {a j b : Nat} {g : Nat → Option β} {r : Option β} (hM : mP M' = mP M) (hq : mP M a j = some b) (h : g b = r) : ob1 (mP M' a j) g = r := by rw [hM, hq]; exact h
theorem e_l1 {β : Type} {M : Mm} {g : Mm → Option β} {r : Option β} (h : g M = r) : lt1 M g = r := h
theorem i_neg {a : Nat} (h : a < 4294967296) : (i32 a < i32 0) = (2147483648 ≤ a) := by
  by_cases h1 : a < 2147483648
  · rw [i_lt h1 (by omega)]
    apply propext; omega
  · apply propext
    rw [Int32.lt_iff_toInt_lt, i_int (show (0 : Nat) < 2147483648 by omega)]
    have e : (i32 a).toInt = (a : Int) - 4294967296 := by
      show (BitVec.ofNat 32 a).toInt = _
      rw [BitVec.toInt_eq_toNat_cond]
      simp only [BitVec.toNat_ofNat]
      rw [Nat.mod_eq_of_lt (show a < 2 ^ 32 by omega)]
      rw [if_neg (by omega)]
      rfl
    rw [e]
    omega
theorem b_all : (-(i32 1) = i32 4294967295) ∧ (∀ a b, i32 a + i32 b = i32 (a + b)) ∧ (∀ a b, i32 a * i32 b = i32 (a * b)) ∧ (∀ a, a < 2147483648 → (i32 a).toNatClampNeg = a) ∧ (∀ a b, a < 4294967296 → b < 4294967296 → (i32 a = i32 b) = (a = b)) ∧ (∀ a b, a < 2147483648 → b < 2147483648 → (i32 a < i32 b) = (a < b)) ∧ (∀ a b, a < 2147483648 → b < 2147483648 → (i32 a ≤ i32 b) = (a ≤ b)) ∧ (∀ a b, a < 2147483648 → b < 2147483648 → 0 < b → i32 a - i32 a / i32 b * i32 b = i32 (a % b)) ∧ vp_nar .boolean (i32 0) = i32 0 ∧ vp_nar .boolean (i32 1) = i32 1 ∧ (∀ P : Prop, (i32 (bp P) = i32 0 ∨ i32 (bp P) = i32 1) = True) ∧ (∀ P : Prop, (i32 (bp P) = i32 0) = ¬ P) ∧ (∀ a b : Nat, a ≤ b → (a ≤ b) = True) ∧ (∀ a b : Nat, ¬ a ≤ b → (a ≤ b) = False) ∧ (∀ a b : Nat, a < b → (a < b) = True) ∧ (∀ a b : Nat, ¬ a < b → (a < b) = False) ∧ (∀ a b : Nat, a = b → (a = b) = True) ∧ (∀ a b : Nat, ¬ a = b → (a = b) = False) ∧ (∀ a : Nat, a ≤ 1 → (a = 0 ∨ a = 1) = True) :=
  ⟨i_m1, i_add, i_mul, fun _ => i_nat, fun _ _ => i_eq, fun _ _ => i_lt, fun _ _ => i_le, fun _ _ => i_mod, nar0, nar1, bp_01, bp_eq0, fun _ _ => eq_true, fun _ _ => eq_false, fun _ _ => eq_true, fun _ _ => eq_false, fun _ _ => eq_true, fun _ _ => eq_false, fun a h => eq_true (by omega)⟩
theorem sV_all : (∀ M a k v, mK (sV M a k v) = mK M) ∧ (∀ M a k v, mP (sV M a k v) = mP M) ∧ (∀ M a k v, mN (sV M a k v) = mN M) ∧ (∀ M a k v, mX (sV M a k v) = mX M) ∧ (∀ M a k v, mS (sV M a k v) = mS M) ∧ (∀ M a k v b j, mV (sV M a k v) b j = if b = a ∧ j = k then v else mV M b j) := ⟨sV_K, sV_P, sV_N, sV_X, sV_S, sV_V⟩
/-- bounds of what the reference's rows hold -/
def bd : Nat → Nat
  | 1 => 1073741824
  | 2 => 2
  | 4 => 5
  | 5 => 5
  | 6 => 1073741824
  | 7 => 1073741824
  | 8 => 1073741824
  | 9 => 2
  | 10 => 2
  | 11 => 2
  | 12 => 2
  | 13 => 2
  | 15 => 40
  | 17 => 21
  | 18 => 2
  | 19 => 2
  | 20 => 1073741824
  | _ => 4294967296
def Bd (W : Ab) : Prop := (2 ≤ W 0 0 ∧ W 0 0 ≤ 5 ∧ W 0 5 ≤ 200 ∧ W 0 23 ≤ 300 ∧ W 0 4 < 1073741824) ∧ ∀ i j, 0 < i → W i j < bd i
theorem Bd.u {W : Ab} (h : Bd W) {i : Nat} (hi : 0 < i) (j : Nat) {v : Nat} (hv : v < bd i) : Bd (U W i j v) := by
  refine ⟨?_, fun a b ha => ?_⟩
  · simp only [U_r _ (show 0 ≠ i by omega)]; exact h.1
  · unfold U
    by_cases hc : a = i ∧ b = j
    · rw [if_pos hc, hc.1]; exact hv
    · rw [if_neg hc]; exact h.2 a b ha
theorem Bd.th {W : Ab} (h : Bd W) {j : Nat} (hj : j ≠ 0 ∧ j ≠ 5 ∧ j ≠ 23 ∧ j ≠ 4) (v : Nat) : Bd (U W 0 j v) := by
  refine ⟨?_, fun a b ha => ?_⟩
  · rw [U_k _ _ _ (show 0 ≠ j by omega), U_k _ _ _ (show 5 ≠ j by omega), U_k _ _ _ (show 23 ≠ j by omega), U_k _ _ _ (show 4 ≠ j by omega)]; exact h.1
  · rw [U_r _ (by omega)]; exact h.2 a b ha
def wr (W : Ab) (t o : Nat) : Prop := W 13 (20 * t + o) ≠ 0
def sees (W : Ab) (t o : Nat) : Prop := W 5 o = 2 ∧ W 6 o ≤ W 7 (5 * t + W 4 o)
section
variable {x : Cx} {k B : Nat} {C W : Ab} {M : Mm}
theorem s_thrown (h : St x B C W M) : fX5_thrown x k (B + 25) M = some (i32 (W 0 27), M) := by
  simp (disch := omega) only [ob1_s, ob2_s, lt1_s, obT_s, obT_x, sV_K, sV_P, sV_N, sV_X, sV_S, sV_V, i_lit, i_m1, i_add, i_mul, i_ix, i_nat, i_eq, i_lt, i_le, i_mod, nar0, nar1, bp_01, bp_eq0, if_true, if_false, and_true, true_and, and_self, not_true_eq_false, not_false_eq_true, or_true, true_or, or_false, false_or, ite_true, ite_false, ite_not, if_true, Nat.reduceEqDiff, Nat.reduceLT, Nat.reduceLeDiff, Nat.reduceAdd, Nat.reduceMul, Nat.reduceSub, eq_self, Nat.add_left_cancel_iff, reduceCtorEq, false_and, and_false, le_t, le_f, lt_t, lt_f, eq_t, eq_f, Nat.not_lt_zero, ↓reduceIte, Nat.mul_one, Nat.add_zero, Nat.zero_add, fX5_thrown, mkM h, mp1 h, mk1 h, mn1 h, mp2 h, mk2 h, mn2 h, mp3 h, mk3 h, mn3 h, mp4 h, mk4 h, mn4 h, mp5 h, mk5 h, mn5 h, mp6 h, mk6 h, mn6 h, mp7 h, mk7 h, mn7 h, mp8 h, mk8 h, mn8 h, mp9 h, mk9 h, mn9 h, mp10 h, mk10 h, mn10 h, mp11 h, mk11 h, mn11 h, mp12 h, mk12 h, mn12 h, mp13 h, mk13 h, mn13 h, mp14 h, mk14 h, mn14 h, mp15 h, mk15 h, mn15 h, mp16 h, mk16 h, mn16 h, mp17 h, mk17 h, mn17 h, mp18 h, mk18 h, mn18 h, mp19 h, mk19 h, mn19 h, mp20 h, mk20 h, mn20 h, mp21 h, mk21 h, mn21 h, mv0 h, mv1 h, mv2 h, mv3 h, mv4 h, mv5 h, mv6 h, mv7 h, mv8 h, mv9 h, mv10 h, mv11 h, mv12 h, mv13 h, mv14 h, mv15 h, mv16 h, mv17 h, mv18 h, mv19 h, mv20 h, mv21 h]
theorem s_fails0 (h : St x B C W M) (e : Nat) : fX5_fails x k (B + 25) (i32 0) (i32 e) M = some (i32 0, sV M (B + 25) 27 (i32 0)) := by
  simp (disch := omega) only [ob1_s, ob2_s, lt1_s, obT_s, obT_x, sV_K, sV_P, sV_N, sV_X, sV_S, sV_V, i_lit, i_m1, i_add, i_mul, i_ix, i_nat, i_eq, i_lt, i_le, i_mod, nar0, nar1, bp_01, bp_eq0, if_true, if_false, and_true, true_and, and_self, not_true_eq_false, not_false_eq_true, or_true, true_or, or_false, false_or, ite_true, ite_false, ite_not, if_true, Nat.reduceEqDiff, Nat.reduceLT, Nat.reduceLeDiff, Nat.reduceAdd, Nat.reduceMul, Nat.reduceSub, eq_self, Nat.add_left_cancel_iff, reduceCtorEq, false_and, and_false, le_t, le_f, lt_t, lt_f, eq_t, eq_f, Nat.not_lt_zero, ↓reduceIte, Nat.mul_one, Nat.add_zero, Nat.zero_add, fX5_fails, fX5_fails_10, mkM h, mp1 h, mk1 h, mn1 h, mp2 h, mk2 h, mn2 h, mp3 h, mk3 h, mn3 h, mp4 h, mk4 h, mn4 h, mp5 h, mk5 h, mn5 h, mp6 h, mk6 h, mn6 h, mp7 h, mk7 h, mn7 h, mp8 h, mk8 h, mn8 h, mp9 h, mk9 h, mn9 h, mp10 h, mk10 h, mn10 h, mp11 h, mk11 h, mn11 h, mp12 h, mk12 h, mn12 h, mp13 h, mk13 h, mn13 h, mp14 h, mk14 h, mn14 h, mp15 h, mk15 h, mn15 h, mp16 h, mk16 h, mn16 h, mp17 h, mk17 h, mn17 h, mp18 h, mk18 h, mn18 h, mp19 h, mk19 h, mn19 h, mp20 h, mk20 h, mn20 h, mp21 h, mk21 h, mn21 h, mv0 h, mv1 h, mv2 h, mv3 h, mv4 h, mv5 h, mv6 h, mv7 h, mv8 h, mv9 h, mv10 h, mv11 h, mv12 h, mv13 h, mv14 h, mv15 h, mv16 h, mv17 h, mv18 h, mv19 h, mv20 h, mv21 h]
theorem s_fails1 (h : St x B C W M) (e : Nat) : fX5_fails x k (B + 25) (i32 1) (i32 e) M = some (i32 1, sV M (B + 25) 27 (i32 e)) := by
  simp (disch := omega) only [ob1_s, ob2_s, lt1_s, obT_s, obT_x, sV_K, sV_P, sV_N, sV_X, sV_S, sV_V, i_lit, i_m1, i_add, i_mul, i_ix, i_nat, i_eq, i_lt, i_le, i_mod, nar0, nar1, bp_01, bp_eq0, if_true, if_false, and_true, true_and, and_self, not_true_eq_false, not_false_eq_true, or_true, true_or, or_false, false_or, ite_true, ite_false, ite_not, if_true, Nat.reduceEqDiff, Nat.reduceLT, Nat.reduceLeDiff, Nat.reduceAdd, Nat.reduceMul, Nat.reduceSub, eq_self, Nat.add_left_cancel_iff, reduceCtorEq, false_and, and_false, le_t, le_f, lt_t, lt_f, eq_t, eq_f, Nat.not_lt_zero, ↓reduceIte, Nat.mul_one, Nat.add_zero, Nat.zero_add, fX5_fails, fX5_fails_10, mkM h, mp1 h, mk1 h, mn1 h, mp2 h, mk2 h, mn2 h, mp3 h, mk3 h, mn3 h, mp4 h, mk4 h, mn4 h, mp5 h, mk5 h, mn5 h, mp6 h, mk6 h, mn6 h, mp7 h, mk7 h, mn7 h, mp8 h, mk8 h, mn8 h, mp9 h, mk9 h, mn9 h, mp10 h, mk10 h, mn10 h, mp11 h, mk11 h, mn11 h, mp12 h, mk12 h, mn12 h, mp13 h, mk13 h, mn13 h, mp14 h, mk14 h, mn14 h, mp15 h, mk15 h, mn15 h, mp16 h, mk16 h, mn16 h, mp17 h, mk17 h, mn17 h, mp18 h, mk18 h, mn18 h, mp19 h, mk19 h, mn19 h, mp20 h, mk20 h, mn20 h, mp21 h, mk21 h, mn21 h, mv0 h, mv1 h, mv2 h, mv3 h, mv4 h, mv5 h, mv6 h, mv7 h, mv8 h, mv9 h, mv10 h, mv11 h, mv12 h, mv13 h, mv14 h, mv15 h, mv16 h, mv17 h, mv18 h, mv19 h, mv20 h, mv21 h]
theorem s_isSite (h : St x B C W M) {a : Nat} (ha : a < 4294967296) (hc : W 0 0 ≤ 5) : fX5_isSite x k (B + 25) (i32 a) M = some (i32 (bp (a < W 0 0)), M) := by
  by_cases h1 : 2147483648 ≤ a
  · rw [bp_f (show ¬ a < W 0 0 by omega)]
    simp (disch := omega) only [fX5_isSite, fX5_isSite_16, fX5_isSite_17, i_lit, i_neg, h1, if_true, i_eq, true_or]
  · by_cases h2 : a < W 0 0
    · rw [bp_t h2]
      simp (disch := omega) only [ob1_s, ob2_s, lt1_s, obT_s, obT_x, sV_K, sV_P, sV_N, sV_X, sV_S, sV_V, i_lit, i_m1, i_add, i_mul, i_ix, i_nat, i_eq, i_lt, i_le, i_mod, nar0, nar1, bp_01, bp_eq0, if_true, if_false, and_true, true_and, and_self, not_true_eq_false, not_false_eq_true, or_true, true_or, or_false, false_or, ite_true, ite_false, ite_not, if_true, Nat.reduceEqDiff, Nat.reduceLT, Nat.reduceLeDiff, Nat.reduceAdd, Nat.reduceMul, Nat.reduceSub, eq_self, Nat.add_left_cancel_iff, reduceCtorEq, false_and, and_false, le_t, le_f, lt_t, lt_f, eq_t, eq_f, Nat.not_lt_zero, ↓reduceIte, Nat.mul_one, Nat.add_zero, Nat.zero_add, fX5_isSite, fX5_isSite_16, fX5_isSite_17, mkM h, mp1 h, mk1 h, mn1 h, mp2 h, mk2 h, mn2 h, mp3 h, mk3 h, mn3 h, mp4 h, mk4 h, mn4 h, mp5 h, mk5 h, mn5 h, mp6 h, mk6 h, mn6 h, mp7 h, mk7 h, mn7 h, mp8 h, mk8 h, mn8 h, mp9 h, mk9 h, mn9 h, mp10 h, mk10 h, mn10 h, mp11 h, mk11 h, mn11 h, mp12 h, mk12 h, mn12 h, mp13 h, mk13 h, mn13 h, mp14 h, mk14 h, mn14 h, mp15 h, mk15 h, mn15 h, mp16 h, mk16 h, mn16 h, mp17 h, mk17 h, mn17 h, mp18 h, mk18 h, mn18 h, mp19 h, mk19 h, mn19 h, mp20 h, mk20 h, mn20 h, mp21 h, mk21 h, mn21 h, mv0 h, mv1 h, mv2 h, mv3 h, mv4 h, mv5 h, mv6 h, mv7 h, mv8 h, mv9 h, mv10 h, mv11 h, mv12 h, mv13 h, mv14 h, mv15 h, mv16 h, mv17 h, mv18 h, mv19 h, mv20 h, mv21 h]
    · rw [bp_f h2]
      simp (disch := omega) only [ob1_s, ob2_s, lt1_s, obT_s, obT_x, sV_K, sV_P, sV_N, sV_X, sV_S, sV_V, i_lit, i_m1, i_add, i_mul, i_ix, i_nat, i_eq, i_lt, i_le, i_mod, nar0, nar1, bp_01, bp_eq0, if_true, if_false, and_true, true_and, and_self, not_true_eq_false, not_false_eq_true, or_true, true_or, or_false, false_or, ite_true, ite_false, ite_not, if_true, Nat.reduceEqDiff, Nat.reduceLT, Nat.reduceLeDiff, Nat.reduceAdd, Nat.reduceMul, Nat.reduceSub, eq_self, Nat.add_left_cancel_iff, reduceCtorEq, false_and, and_false, le_t, le_f, lt_t, lt_f, eq_t, eq_f, Nat.not_lt_zero, ↓reduceIte, Nat.mul_one, Nat.add_zero, Nat.zero_add, fX5_isSite, fX5_isSite_16, fX5_isSite_17, mkM h, mp1 h, mk1 h, mn1 h, mp2 h, mk2 h, mn2 h, mp3 h, mk3 h, mn3 h, mp4 h, mk4 h, mn4 h, mp5 h, mk5 h, mn5 h, mp6 h, mk6 h, mn6 h, mp7 h, mk7 h, mn7 h, mp8 h, mk8 h, mn8 h, mp9 h, mk9 h, mn9 h, mp10 h, mk10 h, mn10 h, mp11 h, mk11 h, mn11 h, mp12 h, mk12 h, mn12 h, mp13 h, mk13 h, mn13 h, mp14 h, mk14 h, mn14 h, mp15 h, mk15 h, mn15 h, mp16 h, mk16 h, mn16 h, mp17 h, mk17 h, mn17 h, mp18 h, mk18 h, mn18 h, mp19 h, mk19 h, mn19 h, mp20 h, mk20 h, mn20 h, mp21 h, mk21 h, mn21 h, mv0 h, mv1 h, mv2 h, mv3 h, mv4 h, mv5 h, mv6 h, mv7 h, mv8 h, mv9 h, mv10 h, mv11 h, mv12 h, mv13 h, mv14 h, mv15 h, mv16 h, mv17 h, mv18 h, mv19 h, mv20 h, mv21 h]
theorem s_isOne (h : St x B C W M) {a : Nat} (ha : a < 4294967296) (hc : W 0 5 ≤ 200) : fX5_isOne x k (B + 25) (i32 a) M = some (i32 (bp (a < W 0 5)), M) := by
  by_cases h1 : 2147483648 ≤ a
  · rw [bp_f (show ¬ a < W 0 5 by omega)]
    simp (disch := omega) only [fX5_isOne, fX5_isOne_16, fX5_isOne_17, i_lit, i_neg, h1, if_true, i_eq, true_or]
  · by_cases h2 : a < W 0 5
    · rw [bp_t h2]
      simp (disch := omega) only [ob1_s, ob2_s, lt1_s, obT_s, obT_x, sV_K, sV_P, sV_N, sV_X, sV_S, sV_V, i_lit, i_m1, i_add, i_mul, i_ix, i_nat, i_eq, i_lt, i_le, i_mod, nar0, nar1, bp_01, bp_eq0, if_true, if_false, and_true, true_and, and_self, not_true_eq_false, not_false_eq_true, or_true, true_or, or_false, false_or, ite_true, ite_false, ite_not, if_true, Nat.reduceEqDiff, Nat.reduceLT, Nat.reduceLeDiff, Nat.reduceAdd, Nat.reduceMul, Nat.reduceSub, eq_self, Nat.add_left_cancel_iff, reduceCtorEq, false_and, and_false, le_t, le_f, lt_t, lt_f, eq_t, eq_f, Nat.not_lt_zero, ↓reduceIte, Nat.mul_one, Nat.add_zero, Nat.zero_add, fX5_isOne, fX5_isOne_16, fX5_isOne_17, mkM h, mp1 h, mk1 h, mn1 h, mp2 h, mk2 h, mn2 h, mp3 h, mk3 h, mn3 h, mp4 h, mk4 h, mn4 h, mp5 h, mk5 h, mn5 h, mp6 h, mk6 h, mn6 h, mp7 h, mk7 h, mn7 h, mp8 h, mk8 h, mn8 h, mp9 h, mk9 h, mn9 h, mp10 h, mk10 h, mn10 h, mp11 h, mk11 h, mn11 h, mp12 h, mk12 h, mn12 h, mp13 h, mk13 h, mn13 h, mp14 h, mk14 h, mn14 h, mp15 h, mk15 h, mn15 h, mp16 h, mk16 h, mn16 h, mp17 h, mk17 h, mn17 h, mp18 h, mk18 h, mn18 h, mp19 h, mk19 h, mn19 h, mp20 h, mk20 h, mn20 h, mp21 h, mk21 h, mn21 h, mv0 h, mv1 h, mv2 h, mv3 h, mv4 h, mv5 h, mv6 h, mv7 h, mv8 h, mv9 h, mv10 h, mv11 h, mv12 h, mv13 h, mv14 h, mv15 h, mv16 h, mv17 h, mv18 h, mv19 h, mv20 h, mv21 h]
    · rw [bp_f h2]
      simp (disch := omega) only [ob1_s, ob2_s, lt1_s, obT_s, obT_x, sV_K, sV_P, sV_N, sV_X, sV_S, sV_V, i_lit, i_m1, i_add, i_mul, i_ix, i_nat, i_eq, i_lt, i_le, i_mod, nar0, nar1, bp_01, bp_eq0, if_true, if_false, and_true, true_and, and_self, not_true_eq_false, not_false_eq_true, or_true, true_or, or_false, false_or, ite_true, ite_false, ite_not, if_true, Nat.reduceEqDiff, Nat.reduceLT, Nat.reduceLeDiff, Nat.reduceAdd, Nat.reduceMul, Nat.reduceSub, eq_self, Nat.add_left_cancel_iff, reduceCtorEq, false_and, and_false, le_t, le_f, lt_t, lt_f, eq_t, eq_f, Nat.not_lt_zero, ↓reduceIte, Nat.mul_one, Nat.add_zero, Nat.zero_add, fX5_isOne, fX5_isOne_16, fX5_isOne_17, mkM h, mp1 h, mk1 h, mn1 h, mp2 h, mk2 h, mn2 h, mp3 h, mk3 h, mn3 h, mp4 h, mk4 h, mn4 h, mp5 h, mk5 h, mn5 h, mp6 h, mk6 h, mn6 h, mp7 h, mk7 h, mn7 h, mp8 h, mk8 h, mn8 h, mp9 h, mk9 h, mn9 h, mp10 h, mk10 h, mn10 h, mp11 h, mk11 h, mn11 h, mp12 h, mk12 h, mn12 h, mp13 h, mk13 h, mn13 h, mp14 h, mk14 h, mn14 h, mp15 h, mk15 h, mn15 h, mp16 h, mk16 h, mn16 h, mp17 h, mk17 h, mn17 h, mp18 h, mk18 h, mn18 h, mp19 h, mk19 h, mn19 h, mp20 h, mk20 h, mn20 h, mp21 h, mk21 h, mn21 h, mv0 h, mv1 h, mv2 h, mv3 h, mv4 h, mv5 h, mv6 h, mv7 h, mv8 h, mv9 h, mv10 h, mv11 h, mv12 h, mv13 h, mv14 h, mv15 h, mv16 h, mv17 h, mv18 h, mv19 h, mv20 h, mv21 h]
theorem s_isObject {a : Nat} (ha : a < 4294967296) : fX5_isObject x k (i32 a) M = some (i32 (bp (a < 20)), M) := by
  by_cases h1 : 2147483648 ≤ a
  · rw [bp_f (show ¬ a < 20 by omega)]
    simp (disch := omega) only [fX5_isObject, fX5_isObject_14, fX5_isObject_15, i_lit, i_neg, h1, if_true, i_eq, true_or]
  · by_cases h2 : a < 20
    · rw [bp_t h2]
      simp (disch := omega) only [ob1_s, ob2_s, lt1_s, obT_s, obT_x, sV_K, sV_P, sV_N, sV_X, sV_S, sV_V, i_lit, i_m1, i_add, i_mul, i_ix, i_nat, i_eq, i_lt, i_le, i_mod, nar0, nar1, bp_01, bp_eq0, if_true, if_false, and_true, true_and, and_self, not_true_eq_false, not_false_eq_true, or_true, true_or, or_false, false_or, ite_true, ite_false, ite_not, if_true, Nat.reduceEqDiff, Nat.reduceLT, Nat.reduceLeDiff, Nat.reduceAdd, Nat.reduceMul, Nat.reduceSub, eq_self, Nat.add_left_cancel_iff, reduceCtorEq, false_and, and_false, le_t, le_f, lt_t, lt_f, eq_t, eq_f, Nat.not_lt_zero, ↓reduceIte, Nat.mul_one, Nat.add_zero, Nat.zero_add, fX5_isObject, fX5_isObject_14, fX5_isObject_15]
    · rw [bp_f h2]
      simp (disch := omega) only [ob1_s, ob2_s, lt1_s, obT_s, obT_x, sV_K, sV_P, sV_N, sV_X, sV_S, sV_V, i_lit, i_m1, i_add, i_mul, i_ix, i_nat, i_eq, i_lt, i_le, i_mod, nar0, nar1, bp_01, bp_eq0, if_true, if_false, and_true, true_and, and_self, not_true_eq_false, not_false_eq_true, or_true, true_or, or_false, false_or, ite_true, ite_false, ite_not, if_true, Nat.reduceEqDiff, Nat.reduceLT, Nat.reduceLeDiff, Nat.reduceAdd, Nat.reduceMul, Nat.reduceSub, eq_self, Nat.add_left_cancel_iff, reduceCtorEq, false_and, and_false, le_t, le_f, lt_t, lt_f, eq_t, eq_f, Nat.not_lt_zero, ↓reduceIte, Nat.mul_one, Nat.add_zero, Nat.zero_add, fX5_isObject, fX5_isObject_14, fX5_isObject_15]
theorem s_isElement {a b : Nat} (ha : a < 4294967296) (hb : b < 4294967296) : fX5_isElement x k (i32 a) (i32 b) M = some (i32 (bp (a < 5 ∧ b < 8)), M) := by
  by_cases h1 : 2147483648 ≤ a
  · rw [bp_f (show ¬ (a < 5 ∧ b < 8) by omega)]
    simp (disch := omega) only [fX5_isElement, fX5_isElement_23, fX5_isElement_24, i_lit, i_neg, h1, if_true, i_eq, true_or]
  · by_cases h2 : a < 5
    · by_cases h3 : 2147483648 ≤ b
      · rw [bp_f (show ¬ (a < 5 ∧ b < 8) by omega)]
        simp (disch := omega) only [fX5_isElement, fX5_isElement_23, fX5_isElement_24, i_lit, i_neg ha, i_neg hb, i_le, h1, h3, if_true, if_false, i_eq, true_or, if_neg]
      · by_cases h4 : b < 8
        · rw [bp_t ⟨h2, h4⟩]
          simp (disch := omega) only [ob1_s, ob2_s, lt1_s, obT_s, obT_x, sV_K, sV_P, sV_N, sV_X, sV_S, sV_V, i_lit, i_m1, i_add, i_mul, i_ix, i_nat, i_eq, i_lt, i_le, i_mod, nar0, nar1, bp_01, bp_eq0, if_true, if_false, and_true, true_and, and_self, not_true_eq_false, not_false_eq_true, or_true, true_or, or_false, false_or, ite_true, ite_false, ite_not, if_true, Nat.reduceEqDiff, Nat.reduceLT, Nat.reduceLeDiff, Nat.reduceAdd, Nat.reduceMul, Nat.reduceSub, eq_self, Nat.add_left_cancel_iff, reduceCtorEq, false_and, and_false, le_t, le_f, lt_t, lt_f, eq_t, eq_f, Nat.not_lt_zero, ↓reduceIte, Nat.mul_one, Nat.add_zero, Nat.zero_add, fX5_isElement, fX5_isElement_23, fX5_isElement_24]
        · rw [bp_f (show ¬ (a < 5 ∧ b < 8) by omega)]
          simp (disch := omega) only [ob1_s, ob2_s, lt1_s, obT_s, obT_x, sV_K, sV_P, sV_N, sV_X, sV_S, sV_V, i_lit, i_m1, i_add, i_mul, i_ix, i_nat, i_eq, i_lt, i_le, i_mod, nar0, nar1, bp_01, bp_eq0, if_true, if_false, and_true, true_and, and_self, not_true_eq_false, not_false_eq_true, or_true, true_or, or_false, false_or, ite_true, ite_false, ite_not, if_true, Nat.reduceEqDiff, Nat.reduceLT, Nat.reduceLeDiff, Nat.reduceAdd, Nat.reduceMul, Nat.reduceSub, eq_self, Nat.add_left_cancel_iff, reduceCtorEq, false_and, and_false, le_t, le_f, lt_t, lt_f, eq_t, eq_f, Nat.not_lt_zero, ↓reduceIte, Nat.mul_one, Nat.add_zero, Nat.zero_add, fX5_isElement, fX5_isElement_23, fX5_isElement_24]
    · rw [bp_f (show ¬ (a < 5 ∧ b < 8) by omega)]
      simp (disch := omega) only [ob1_s, ob2_s, lt1_s, obT_s, obT_x, sV_K, sV_P, sV_N, sV_X, sV_S, sV_V, i_lit, i_m1, i_add, i_mul, i_ix, i_nat, i_eq, i_lt, i_le, i_mod, nar0, nar1, bp_01, bp_eq0, if_true, if_false, and_true, true_and, and_self, not_true_eq_false, not_false_eq_true, or_true, true_or, or_false, false_or, ite_true, ite_false, ite_not, if_true, Nat.reduceEqDiff, Nat.reduceLT, Nat.reduceLeDiff, Nat.reduceAdd, Nat.reduceMul, Nat.reduceSub, eq_self, Nat.add_left_cancel_iff, reduceCtorEq, false_and, and_false, le_t, le_f, lt_t, lt_f, eq_t, eq_f, Nat.not_lt_zero, ↓reduceIte, Nat.mul_one, Nat.add_zero, Nat.zero_add, fX5_isElement, fX5_isElement_23, fX5_isElement_24]
/-- the first n of a row are v -/
def fl (W : Ab) (i v : Nat) : Nat → Ab
  | 0 => W
  | n + 1 => U (fl W i v n) i n v
theorem s_begins3 (W : Ab) : ∀ (n j : Nat) (M : Mm), St x B C (fl W 3 4294967295 j) M → j ≤ 100 → 100 < n + j → ∃ M', fX5_begins_68 x k n (B + 25) (i32 j) M = some ((), M') ∧ St x B C (fl W 3 4294967295 100) M' := by
  intro n
  induction n with
  | zero => intro j M _ h1 h2; omega
  | succ n ih =>
    intro j M h hj hn
    by_cases hc : 100 ≤ j
    · obtain rfl : j = 100 := by omega
      refine ⟨M, ?_, h⟩
      simp (disch := omega) only [ob1_s, ob2_s, lt1_s, obT_s, obT_x, sV_K, sV_P, sV_N, sV_X, sV_S, sV_V, i_lit, i_m1, i_add, i_mul, i_ix, i_nat, i_eq, i_lt, i_le, i_mod, nar0, nar1, bp_01, bp_eq0, if_true, if_false, and_true, true_and, and_self, not_true_eq_false, not_false_eq_true, or_true, true_or, or_false, false_or, ite_true, ite_false, ite_not, if_true, Nat.reduceEqDiff, Nat.reduceLT, Nat.reduceLeDiff, Nat.reduceAdd, Nat.reduceMul, Nat.reduceSub, eq_self, Nat.add_left_cancel_iff, reduceCtorEq, false_and, and_false, le_t, le_f, lt_t, lt_f, eq_t, eq_f, Nat.not_lt_zero, ↓reduceIte, Nat.mul_one, Nat.add_zero, Nat.zero_add, fX5_begins_68, mkM h, mp1 h, mk1 h, mn1 h, mp2 h, mk2 h, mn2 h, mp3 h, mk3 h, mn3 h, mp4 h, mk4 h, mn4 h, mp5 h, mk5 h, mn5 h, mp6 h, mk6 h, mn6 h, mp7 h, mk7 h, mn7 h, mp8 h, mk8 h, mn8 h, mp9 h, mk9 h, mn9 h, mp10 h, mk10 h, mn10 h, mp11 h, mk11 h, mn11 h, mp12 h, mk12 h, mn12 h, mp13 h, mk13 h, mn13 h, mp14 h, mk14 h, mn14 h, mp15 h, mk15 h, mn15 h, mp16 h, mk16 h, mn16 h, mp17 h, mk17 h, mn17 h, mp18 h, mk18 h, mn18 h, mp19 h, mk19 h, mn19 h, mp20 h, mk20 h, mn20 h, mp21 h, mk21 h, mn21 h, mv0 h, mv1 h, mv2 h, mv3 h, mv4 h, mv5 h, mv6 h, mv7 h, mv8 h, mv9 h, mv10 h, mv11 h, mv12 h, mv13 h, mv14 h, mv15 h, mv16 h, mv17 h, mv18 h, mv19 h, mv20 h, mv21 h]
    · obtain ⟨M', e, hM⟩ := ih (j + 1) _ (su3 h j 4294967295) (by omega) (by omega)
      refine ⟨M', ?_, hM⟩
      rw [← e]
      simp (disch := omega) only [ob1_s, ob2_s, lt1_s, obT_s, obT_x, sV_K, sV_P, sV_N, sV_X, sV_S, sV_V, i_lit, i_m1, i_add, i_mul, i_ix, i_nat, i_eq, i_lt, i_le, i_mod, nar0, nar1, bp_01, bp_eq0, if_true, if_false, and_true, true_and, and_self, not_true_eq_false, not_false_eq_true, or_true, true_or, or_false, false_or, ite_true, ite_false, ite_not, if_true, Nat.reduceEqDiff, Nat.reduceLT, Nat.reduceLeDiff, Nat.reduceAdd, Nat.reduceMul, Nat.reduceSub, eq_self, Nat.add_left_cancel_iff, reduceCtorEq, false_and, and_false, le_t, le_f, lt_t, lt_f, eq_t, eq_f, Nat.not_lt_zero, ↓reduceIte, Nat.mul_one, Nat.add_zero, Nat.zero_add, fX5_begins_68, mkM h, mp1 h, mk1 h, mn1 h, mp2 h, mk2 h, mn2 h, mp3 h, mk3 h, mn3 h, mp4 h, mk4 h, mn4 h, mp5 h, mk5 h, mn5 h, mp6 h, mk6 h, mn6 h, mp7 h, mk7 h, mn7 h, mp8 h, mk8 h, mn8 h, mp9 h, mk9 h, mn9 h, mp10 h, mk10 h, mn10 h, mp11 h, mk11 h, mn11 h, mp12 h, mk12 h, mn12 h, mp13 h, mk13 h, mn13 h, mp14 h, mk14 h, mn14 h, mp15 h, mk15 h, mn15 h, mp16 h, mk16 h, mn16 h, mp17 h, mk17 h, mn17 h, mp18 h, mk18 h, mn18 h, mp19 h, mk19 h, mn19 h, mp20 h, mk20 h, mn20 h, mp21 h, mk21 h, mn21 h, mv0 h, mv1 h, mv2 h, mv3 h, mv4 h, mv5 h, mv6 h, mv7 h, mv8 h, mv9 h, mv10 h, mv11 h, mv12 h, mv13 h, mv14 h, mv15 h, mv16 h, mv17 h, mv18 h, mv19 h, mv20 h, mv21 h]
theorem s_begins2 (W : Ab) : ∀ (n j : Nat) (M : Mm), St x B C (fl W 2 0 j) M → j ≤ 5 → 5 < n + j → ∃ M', fX5_begins_48 x k n (B + 25) (i32 j) M = fX5_begins_68 x k k (B + 25) (i32 0) M' ∧ St x B C (fl W 2 0 5) M' := by
  intro n
  induction n with
  | zero => intro j M _ h1 h2; omega
  | succ n ih =>
    intro j M h hj hn
    by_cases hc : 5 ≤ j
    · obtain rfl : j = 5 := by omega
      refine ⟨M, ?_, h⟩
      simp (disch := omega) only [ob1_s, ob2_s, lt1_s, obT_s, obT_x, sV_K, sV_P, sV_N, sV_X, sV_S, sV_V, i_lit, i_m1, i_add, i_mul, i_ix, i_nat, i_eq, i_lt, i_le, i_mod, nar0, nar1, bp_01, bp_eq0, if_true, if_false, and_true, true_and, and_self, not_true_eq_false, not_false_eq_true, or_true, true_or, or_false, false_or, ite_true, ite_false, ite_not, if_true, Nat.reduceEqDiff, Nat.reduceLT, Nat.reduceLeDiff, Nat.reduceAdd, Nat.reduceMul, Nat.reduceSub, eq_self, Nat.add_left_cancel_iff, reduceCtorEq, false_and, and_false, le_t, le_f, lt_t, lt_f, eq_t, eq_f, Nat.not_lt_zero, ↓reduceIte, Nat.mul_one, Nat.add_zero, Nat.zero_add, fX5_begins_48, mkM h, mp1 h, mk1 h, mn1 h, mp2 h, mk2 h, mn2 h, mp3 h, mk3 h, mn3 h, mp4 h, mk4 h, mn4 h, mp5 h, mk5 h, mn5 h, mp6 h, mk6 h, mn6 h, mp7 h, mk7 h, mn7 h, mp8 h, mk8 h, mn8 h, mp9 h, mk9 h, mn9 h, mp10 h, mk10 h, mn10 h, mp11 h, mk11 h, mn11 h, mp12 h, mk12 h, mn12 h, mp13 h, mk13 h, mn13 h, mp14 h, mk14 h, mn14 h, mp15 h, mk15 h, mn15 h, mp16 h, mk16 h, mn16 h, mp17 h, mk17 h, mn17 h, mp18 h, mk18 h, mn18 h, mp19 h, mk19 h, mn19 h, mp20 h, mk20 h, mn20 h, mp21 h, mk21 h, mn21 h, mv0 h, mv1 h, mv2 h, mv3 h, mv4 h, mv5 h, mv6 h, mv7 h, mv8 h, mv9 h, mv10 h, mv11 h, mv12 h, mv13 h, mv14 h, mv15 h, mv16 h, mv17 h, mv18 h, mv19 h, mv20 h, mv21 h]
    · obtain ⟨M', e, hM⟩ := ih (j + 1) _ (su2 h j 0) (by omega) (by omega)
      refine ⟨M', ?_, hM⟩
      rw [← e]
      simp (disch := omega) only [ob1_s, ob2_s, lt1_s, obT_s, obT_x, sV_K, sV_P, sV_N, sV_X, sV_S, sV_V, i_lit, i_m1, i_add, i_mul, i_ix, i_nat, i_eq, i_lt, i_le, i_mod, nar0, nar1, bp_01, bp_eq0, if_true, if_false, and_true, true_and, and_self, not_true_eq_false, not_false_eq_true, or_true, true_or, or_false, false_or, ite_true, ite_false, ite_not, if_true, Nat.reduceEqDiff, Nat.reduceLT, Nat.reduceLeDiff, Nat.reduceAdd, Nat.reduceMul, Nat.reduceSub, eq_self, Nat.add_left_cancel_iff, reduceCtorEq, false_and, and_false, le_t, le_f, lt_t, lt_f, eq_t, eq_f, Nat.not_lt_zero, ↓reduceIte, Nat.mul_one, Nat.add_zero, Nat.zero_add, fX5_begins_48, mkM h, mp1 h, mk1 h, mn1 h, mp2 h, mk2 h, mn2 h, mp3 h, mk3 h, mn3 h, mp4 h, mk4 h, mn4 h, mp5 h, mk5 h, mn5 h, mp6 h, mk6 h, mn6 h, mp7 h, mk7 h, mn7 h, mp8 h, mk8 h, mn8 h, mp9 h, mk9 h, mn9 h, mp10 h, mk10 h, mn10 h, mp11 h, mk11 h, mn11 h, mp12 h, mk12 h, mn12 h, mp13 h, mk13 h, mn13 h, mp14 h, mk14 h, mn14 h, mp15 h, mk15 h, mn15 h, mp16 h, mk16 h, mn16 h, mp17 h, mk17 h, mn17 h, mp18 h, mk18 h, mn18 h, mp19 h, mk19 h, mn19 h, mp20 h, mk20 h, mn20 h, mp21 h, mk21 h, mn21 h, mv0 h, mv1 h, mv2 h, mv3 h, mv4 h, mv5 h, mv6 h, mv7 h, mv8 h, mv9 h, mv10 h, mv11 h, mv12 h, mv13 h, mv14 h, mv15 h, mv16 h, mv17 h, mv18 h, mv19 h, mv20 h, mv21 h]
theorem s_begins1 (W : Ab) : ∀ (n j : Nat) (M : Mm), St x B C (fl W 1 0 j) M → j ≤ 25 → 25 < n + j → ∃ M', fX5_begins_27 x k n (B + 25) (i32 j) M = fX5_begins_48 x k k (B + 25) (i32 0) M' ∧ St x B C (fl W 1 0 25) M' := by
  intro n
  induction n with
  | zero => intro j M _ h1 h2; omega
  | succ n ih =>
    intro j M h hj hn
    by_cases hc : 25 ≤ j
    · obtain rfl : j = 25 := by omega
      refine ⟨M, ?_, h⟩
      simp (disch := omega) only [ob1_s, ob2_s, lt1_s, obT_s, obT_x, sV_K, sV_P, sV_N, sV_X, sV_S, sV_V, i_lit, i_m1, i_add, i_mul, i_ix, i_nat, i_eq, i_lt, i_le, i_mod, nar0, nar1, bp_01, bp_eq0, if_true, if_false, and_true, true_and, and_self, not_true_eq_false, not_false_eq_true, or_true, true_or, or_false, false_or, ite_true, ite_false, ite_not, if_true, Nat.reduceEqDiff, Nat.reduceLT, Nat.reduceLeDiff, Nat.reduceAdd, Nat.reduceMul, Nat.reduceSub, eq_self, Nat.add_left_cancel_iff, reduceCtorEq, false_and, and_false, le_t, le_f, lt_t, lt_f, eq_t, eq_f, Nat.not_lt_zero, ↓reduceIte, Nat.mul_one, Nat.add_zero, Nat.zero_add, fX5_begins_27, mkM h, mp1 h, mk1 h, mn1 h, mp2 h, mk2 h, mn2 h, mp3 h, mk3 h, mn3 h, mp4 h, mk4 h, mn4 h, mp5 h, mk5 h, mn5 h, mp6 h, mk6 h, mn6 h, mp7 h, mk7 h, mn7 h, mp8 h, mk8 h, mn8 h, mp9 h, mk9 h, mn9 h, mp10 h, mk10 h, mn10 h, mp11 h, mk11 h, mn11 h, mp12 h, mk12 h, mn12 h, mp13 h, mk13 h, mn13 h, mp14 h, mk14 h, mn14 h, mp15 h, mk15 h, mn15 h, mp16 h, mk16 h, mn16 h, mp17 h, mk17 h, mn17 h, mp18 h, mk18 h, mn18 h, mp19 h, mk19 h, mn19 h, mp20 h, mk20 h, mn20 h, mp21 h, mk21 h, mn21 h, mv0 h, mv1 h, mv2 h, mv3 h, mv4 h, mv5 h, mv6 h, mv7 h, mv8 h, mv9 h, mv10 h, mv11 h, mv12 h, mv13 h, mv14 h, mv15 h, mv16 h, mv17 h, mv18 h, mv19 h, mv20 h, mv21 h]
    · obtain ⟨M', e, hM⟩ := ih (j + 1) _ (su1 h j 0) (by omega) (by omega)
      refine ⟨M', ?_, hM⟩
      rw [← e]
      simp (disch := omega) only [ob1_s, ob2_s, lt1_s, obT_s, obT_x, sV_K, sV_P, sV_N, sV_X, sV_S, sV_V, i_lit, i_m1, i_add, i_mul, i_ix, i_nat, i_eq, i_lt, i_le, i_mod, nar0, nar1, bp_01, bp_eq0, if_true, if_false, and_true, true_and, and_self, not_true_eq_false, not_false_eq_true, or_true, true_or, or_false, false_or, ite_true, ite_false, ite_not, if_true, Nat.reduceEqDiff, Nat.reduceLT, Nat.reduceLeDiff, Nat.reduceAdd, Nat.reduceMul, Nat.reduceSub, eq_self, Nat.add_left_cancel_iff, reduceCtorEq, false_and, and_false, le_t, le_f, lt_t, lt_f, eq_t, eq_f, Nat.not_lt_zero, ↓reduceIte, Nat.mul_one, Nat.add_zero, Nat.zero_add, fX5_begins_27, mkM h, mp1 h, mk1 h, mn1 h, mp2 h, mk2 h, mn2 h, mp3 h, mk3 h, mn3 h, mp4 h, mk4 h, mn4 h, mp5 h, mk5 h, mn5 h, mp6 h, mk6 h, mn6 h, mp7 h, mk7 h, mn7 h, mp8 h, mk8 h, mn8 h, mp9 h, mk9 h, mn9 h, mp10 h, mk10 h, mn10 h, mp11 h, mk11 h, mn11 h, mp12 h, mk12 h, mn12 h, mp13 h, mk13 h, mn13 h, mp14 h, mk14 h, mn14 h, mp15 h, mk15 h, mn15 h, mp16 h, mk16 h, mn16 h, mp17 h, mk17 h, mn17 h, mp18 h, mk18 h, mn18 h, mp19 h, mk19 h, mn19 h, mp20 h, mk20 h, mn20 h, mp21 h, mk21 h, mn21 h, mv0 h, mv1 h, mv2 h, mv3 h, mv4 h, mv5 h, mv6 h, mv7 h, mv8 h, mv9 h, mv10 h, mv11 h, mv12 h, mv13 h, mv14 h, mv15 h, mv16 h, mv17 h, mv18 h, mv19 h, mv20 h, mv21 h]
def wBegins (W : Ab) (n : Nat) : Ab := fl (fl (fl (U (U (U (U (U W 0 0 n) 0 4 0) 0 5 0) 0 23 0) 0 24 0) 1 0 25) 2 0 5) 3 4294967295 100
theorem s_begins (hk : 5000 ≤ k) (h : St x B C W M) (n : Nat) : ∃ M', fX5_begins x k (B + 25) (i32 n) M = some ((), M') ∧ St x B C (wBegins W n) M' := by
  have h5 := su0 (su0 (su0 (su0 (su0 h 0 n) 4 0) 5 0) 23 0) 24 0
  obtain ⟨M1, e1, h1⟩ := s_begins1 (k := k) _ k 0 _ h5 (by omega) (by omega)
  obtain ⟨M2, e2, h2⟩ := s_begins2 (k := k) _ k 0 _ h1 (by omega) (by omega)
  obtain ⟨M3, e3, h3⟩ := s_begins3 (k := k) _ k 0 _ h2 (by omega) (by omega)
  refine ⟨M3, ?_, h3⟩
  rw [← e3, ← e2, ← e1]
  simp (disch := omega) only [ob1_s, ob2_s, lt1_s, obT_s, obT_x, sV_K, sV_P, sV_N, sV_X, sV_S, sV_V, i_lit, i_m1, i_add, i_mul, i_ix, i_nat, i_eq, i_lt, i_le, i_mod, nar0, nar1, bp_01, bp_eq0, if_true, if_false, and_true, true_and, and_self, not_true_eq_false, not_false_eq_true, or_true, true_or, or_false, false_or, ite_true, ite_false, ite_not, if_true, Nat.reduceEqDiff, Nat.reduceLT, Nat.reduceLeDiff, Nat.reduceAdd, Nat.reduceMul, Nat.reduceSub, eq_self, Nat.add_left_cancel_iff, reduceCtorEq, false_and, and_false, le_t, le_f, lt_t, lt_f, eq_t, eq_f, Nat.not_lt_zero, ↓reduceIte, Nat.mul_one, Nat.add_zero, Nat.zero_add, fX5_begins, mkM h, mp1 h, mk1 h, mn1 h, mp2 h, mk2 h, mn2 h, mp3 h, mk3 h, mn3 h, mp4 h, mk4 h, mn4 h, mp5 h, mk5 h, mn5 h, mp6 h, mk6 h, mn6 h, mp7 h, mk7 h, mn7 h, mp8 h, mk8 h, mn8 h, mp9 h, mk9 h, mn9 h, mp10 h, mk10 h, mn10 h, mp11 h, mk11 h, mn11 h, mp12 h, mk12 h, mn12 h, mp13 h, mk13 h, mn13 h, mp14 h, mk14 h, mn14 h, mp15 h, mk15 h, mn15 h, mp16 h, mk16 h, mn16 h, mp17 h, mk17 h, mn17 h, mp18 h, mk18 h, mn18 h, mp19 h, mk19 h, mn19 h, mp20 h, mk20 h, mn20 h, mp21 h, mk21 h, mn21 h, mv0 h, mv1 h, mv2 h, mv3 h, mv4 h, mv5 h, mv6 h, mv7 h, mv8 h, mv9 h, mv10 h, mv11 h, mv12 h, mv13 h, mv14 h, mv15 h, mv16 h, mv17 h, mv18 h, mv19 h, mv20 h, mv21 h]
theorem s_open_ok (hk : 5000 ≤ k) (h : St x B C W M) {n : Nat} (h2 : 2 ≤ n) (h5 : n ≤ 5) : ∃ M', fX5_open x k (B + 25) (i32 n) M = some ((), M') ∧ St x B C (wBegins (U W 0 27 0) n) M' := by
  obtain ⟨M', e, hM⟩ := s_begins hk (su0 h 27 0) n
  refine ⟨M', ?_, hM⟩
  simp (disch := omega) only [ob1_s, ob2_s, lt1_s, obT_s, obT_x, sV_K, sV_P, sV_N, sV_X, sV_S, sV_V, i_lit, i_m1, i_add, i_mul, i_ix, i_nat, i_eq, i_lt, i_le, i_mod, nar0, nar1, bp_01, bp_eq0, if_true, if_false, and_true, true_and, and_self, not_true_eq_false, not_false_eq_true, or_true, true_or, or_false, false_or, ite_true, ite_false, ite_not, if_true, Nat.reduceEqDiff, Nat.reduceLT, Nat.reduceLeDiff, Nat.reduceAdd, Nat.reduceMul, Nat.reduceSub, eq_self, Nat.add_left_cancel_iff, reduceCtorEq, false_and, and_false, le_t, le_f, lt_t, lt_f, eq_t, eq_f, Nat.not_lt_zero, ↓reduceIte, Nat.mul_one, Nat.add_zero, Nat.zero_add, fX5_open, fX5_open_16, fX5_open_11, s_fails0 h, e, mkM h, mp1 h, mk1 h, mn1 h, mp2 h, mk2 h, mn2 h, mp3 h, mk3 h, mn3 h, mp4 h, mk4 h, mn4 h, mp5 h, mk5 h, mn5 h, mp6 h, mk6 h, mn6 h, mp7 h, mk7 h, mn7 h, mp8 h, mk8 h, mn8 h, mp9 h, mk9 h, mn9 h, mp10 h, mk10 h, mn10 h, mp11 h, mk11 h, mn11 h, mp12 h, mk12 h, mn12 h, mp13 h, mk13 h, mn13 h, mp14 h, mk14 h, mn14 h, mp15 h, mk15 h, mn15 h, mp16 h, mk16 h, mn16 h, mp17 h, mk17 h, mn17 h, mp18 h, mk18 h, mn18 h, mp19 h, mk19 h, mn19 h, mp20 h, mk20 h, mn20 h, mp21 h, mk21 h, mn21 h, mv0 h, mv1 h, mv2 h, mv3 h, mv4 h, mv5 h, mv6 h, mv7 h, mv8 h, mv9 h, mv10 h, mv11 h, mv12 h, mv13 h, mv14 h, mv15 h, mv16 h, mv17 h, mv18 h, mv19 h, mv20 h, mv21 h]
theorem s_open_bad (h : St x B C W M) {n : Nat} (hn : n < 4294967296) (hb : ¬ (2 ≤ n ∧ n ≤ 5)) : fX5_open x k (B + 25) (i32 n) M = some ((), sV M (B + 25) 27 (i32 1)) := by
  by_cases h1 : 2147483648 ≤ n
  · have e1 : (i32 n < i32 2) = True := by
      apply eq_true
      have : i32 n < i32 0 := by rw [i_neg hn]; exact h1
      rw [Int32.lt_iff_toInt_lt] at this ⊢
      rw [i_int (a := 0) (by omega)] at this
      rw [i_int (a := 2) (by omega)]
      omega
    simp (disch := omega) only [fX5_open, fX5_open_16, fX5_open_11, i_lit, e1, if_true, s_fails1 h, mkM h, ob2_s, i_eq, if_neg]
  · by_cases h3 : n < 2
    · simp (disch := omega) only [ob1_s, ob2_s, lt1_s, obT_s, obT_x, sV_K, sV_P, sV_N, sV_X, sV_S, sV_V, i_lit, i_m1, i_add, i_mul, i_ix, i_nat, i_eq, i_lt, i_le, i_mod, nar0, nar1, bp_01, bp_eq0, if_true, if_false, and_true, true_and, and_self, not_true_eq_false, not_false_eq_true, or_true, true_or, or_false, false_or, ite_true, ite_false, ite_not, if_true, Nat.reduceEqDiff, Nat.reduceLT, Nat.reduceLeDiff, Nat.reduceAdd, Nat.reduceMul, Nat.reduceSub, eq_self, Nat.add_left_cancel_iff, reduceCtorEq, false_and, and_false, le_t, le_f, lt_t, lt_f, eq_t, eq_f, Nat.not_lt_zero, ↓reduceIte, Nat.mul_one, Nat.add_zero, Nat.zero_add, fX5_open, fX5_open_16, fX5_open_11, s_fails1 h, mkM h, mp1 h, mk1 h, mn1 h, mp2 h, mk2 h, mn2 h, mp3 h, mk3 h, mn3 h, mp4 h, mk4 h, mn4 h, mp5 h, mk5 h, mn5 h, mp6 h, mk6 h, mn6 h, mp7 h, mk7 h, mn7 h, mp8 h, mk8 h, mn8 h, mp9 h, mk9 h, mn9 h, mp10 h, mk10 h, mn10 h, mp11 h, mk11 h, mn11 h, mp12 h, mk12 h, mn12 h, mp13 h, mk13 h, mn13 h, mp14 h, mk14 h, mn14 h, mp15 h, mk15 h, mn15 h, mp16 h, mk16 h, mn16 h, mp17 h, mk17 h, mn17 h, mp18 h, mk18 h, mn18 h, mp19 h, mk19 h, mn19 h, mp20 h, mk20 h, mn20 h, mp21 h, mk21 h, mn21 h, mv0 h, mv1 h, mv2 h, mv3 h, mv4 h, mv5 h, mv6 h, mv7 h, mv8 h, mv9 h, mv10 h, mv11 h, mv12 h, mv13 h, mv14 h, mv15 h, mv16 h, mv17 h, mv18 h, mv19 h, mv20 h, mv21 h]
    · simp (disch := omega) only [ob1_s, ob2_s, lt1_s, obT_s, obT_x, sV_K, sV_P, sV_N, sV_X, sV_S, sV_V, i_lit, i_m1, i_add, i_mul, i_ix, i_nat, i_eq, i_lt, i_le, i_mod, nar0, nar1, bp_01, bp_eq0, if_true, if_false, and_true, true_and, and_self, not_true_eq_false, not_false_eq_true, or_true, true_or, or_false, false_or, ite_true, ite_false, ite_not, if_true, Nat.reduceEqDiff, Nat.reduceLT, Nat.reduceLeDiff, Nat.reduceAdd, Nat.reduceMul, Nat.reduceSub, eq_self, Nat.add_left_cancel_iff, reduceCtorEq, false_and, and_false, le_t, le_f, lt_t, lt_f, eq_t, eq_f, Nat.not_lt_zero, ↓reduceIte, Nat.mul_one, Nat.add_zero, Nat.zero_add, fX5_open, fX5_open_16, fX5_open_11, s_fails1 h, mkM h, mp1 h, mk1 h, mn1 h, mp2 h, mk2 h, mn2 h, mp3 h, mk3 h, mn3 h, mp4 h, mk4 h, mn4 h, mp5 h, mk5 h, mn5 h, mp6 h, mk6 h, mn6 h, mp7 h, mk7 h, mn7 h, mp8 h, mk8 h, mn8 h, mp9 h, mk9 h, mn9 h, mp10 h, mk10 h, mn10 h, mp11 h, mk11 h, mn11 h, mp12 h, mk12 h, mn12 h, mp13 h, mk13 h, mn13 h, mp14 h, mk14 h, mn14 h, mp15 h, mk15 h, mn15 h, mp16 h, mk16 h, mn16 h, mp17 h, mk17 h, mn17 h, mp18 h, mk18 h, mn18 h, mp19 h, mk19 h, mn19 h, mp20 h, mk20 h, mn20 h, mp21 h, mk21 h, mn21 h, mv0 h, mv1 h, mv2 h, mv3 h, mv4 h, mv5 h, mv6 h, mv7 h, mv8 h, mv9 h, mv10 h, mv11 h, mv12 h, mv13 h, mv14 h, mv15 h, mv16 h, mv17 h, mv18 h, mv19 h, mv20 h, mv21 h]
end
