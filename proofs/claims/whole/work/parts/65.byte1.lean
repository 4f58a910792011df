/-! Bytes of a letter -/
def bt (v : Int32) : Nat := nI32 (v &&& i32 255)
theorem bt_i (v : Int32) : i32 (bt v) = v &&& i32 255 := i_nI _
theorem bt_lt (v : Int32) : bt v < 256 := by
  unfold bt nI32
  rw [Int32.toBitVec_and, BitVec.toNat_and]
  exact Nat.lt_of_le_of_lt Nat.and_le_right (by decide)
theorem bt_n {n : Nat} (h : n < 256) : bt (i32 n) = n := by
  unfold bt
  rw [i_and, show (255 : Nat) = 2 ^ 8 - 1 from rfl, Nat.and_two_pow_sub_one_eq_mod, Nat.mod_eq_of_lt h, nI_i (by omega)]
def gt (L : List Nat) (i : Nat) : Nat := (L[i]?).getD 0
theorem gt_l {L K : List Nat} {i : Nat} (h : i < L.length) : gt (L ++ K) i = gt L i := by
  unfold gt; rw [List.getElem?_append_left h]
theorem gt_r {L K : List Nat} {i : Nat} (h : L.length ≤ i) : gt (L ++ K) i = gt K (i - L.length) := by
  unfold gt; rw [List.getElem?_append_right h]
theorem gt_hi {L : List Nat} {i : Nat} (h : L.length ≤ i) : gt L i = 0 := by
  unfold gt; rw [List.getElem?_eq_none h]; rfl
def By (L : List Nat) : Prop := ∀ i, gt L i < 256
theorem By.nil : By [] := fun i => by rw [gt_hi (Nat.zero_le i)]; omega
theorem By.app {L K : List Nat} (h : By L) (h' : By K) : By (L ++ K) := fun i => by
  by_cases c : i < L.length
  · rw [gt_l c]; exact h i
  · rw [gt_r (by omega)]; exact h' _
theorem By.one {b : Nat} (h : b < 256) : By [b] := fun i => by
  cases i with
  | zero => exact h
  | succ n => rw [gt_hi (by simp)]; omega
def ck (c b : Nat) : Nat := (((c <<< 3) ||| (c >>> 13)) &&& 65535) ^^^ b
theorem ck_lt {c b : Nat} (hb : b < 65536) : ck c b < 65536 := Nat.xor_lt_two_pow (n := 16) (Nat.lt_of_le_of_lt Nat.and_le_right (by decide)) hb
theorem ck_m {c : Nat} (b : Nat) (hc : c < 65536) : (((c <<< 3) &&& 65535) ||| (c >>> 13)) ^^^ b = ck c b := by
  unfold ck
  rw [Nat.and_or_distrib_right, show (65535 : Nat) = 2 ^ 16 - 1 from rfl, Nat.and_two_pow_sub_one_eq_mod (c >>> 13) 16, Nat.mod_eq_of_lt (a := c >>> 13)]
  rw [Nat.shiftRight_eq_div_pow]
  exact Nat.lt_of_le_of_lt (Nat.div_le_self _ _) hc
def chkG (g : Nat → Nat) : Nat → Nat
  | 0 => 0
  | n + 1 => ck (chkG g n) (g n)
theorem chkG_c {g h : Nat → Nat} : ∀ n, (∀ i, i < n → g i = h i) → chkG g n = chkG h n
  | 0, _ => rfl
  | n + 1, e => by show ck _ _ = ck _ _; rw [chkG_c n (fun i hi => e i (by omega)), e n (by omega)]
theorem chkG_lt {g : Nat → Nat} (h : ∀ i, g i < 256) : ∀ n, chkG g n < 65536
  | 0 => by show 0 < 65536; omega
  | n + 1 => ck_lt (by have := h n; omega)
def chk (L : List Nat) : Nat := chkG (gt L) L.length
theorem chk_s (L : List Nat) (b : Nat) : chk (L ++ [b]) = ck (chk L) b := by
  unfold chk
  rw [List.length_append]
  show ck (chkG (gt (L ++ [b])) L.length) (gt (L ++ [b]) L.length) = _
  rw [chkG_c (h := gt L) L.length (fun i hi => gt_l hi), gt_r (Nat.le_refl _), Nat.sub_self]
  rfl
def fnd (L : List Nat) (w : Nat) : Nat := if w < L.length then gt L w else 4294967295
theorem fnd_s (L : List Nat) (b w : Nat) : fnd (L ++ [b]) w = if w = L.length then b else fnd L w := by
  unfold fnd
  rw [List.length_append]
  show (if w < L.length + 1 then _ else _) = _
  by_cases c : w = L.length
  · rw [if_pos (by omega), if_pos c, c, gt_r (Nat.le_refl _), Nat.sub_self]; rfl
  · rw [if_neg c]
    by_cases z : w < L.length
    · rw [if_pos (by omega), if_pos z, gt_l z]
    · rw [if_neg (by omega), if_neg z]
def two (v : Int32) : List Nat := [bt (v >>> (i32 8 &&& i32 31)), bt v]
def four (v : Int32) : List Nat := two (v >>> (i32 16 &&& i32 31)) ++ two v
theorem two_by (v : Int32) : By (two v) := (By.one (bt_lt _)).app (By.one (bt_lt v))
theorem four_by (v : Int32) : By (four v) := (two_by _).app (two_by v)
def stB (W : Ab) (t : Nat) : Nat → List Nat
  | 0 => []
  | j + 1 => stB W t j ++ two (i32 (W 7 (5 * t + j)))
theorem stB_l (W : Ab) (t : Nat) : ∀ n, (stB W t n).length = 2 * n ∧ By (stB W t n)
  | 0 => ⟨rfl, By.nil⟩
  | n + 1 => ⟨by show (stB W t n ++ _).length = _; rw [List.length_append, (stB_l W t n).1]; show 2 * n + 2 = _; omega, (stB_l W t n).2.app (two_by _)⟩
def obV (W : Ab) (kd t o : Nat) : List Nat := bt (i32 o) :: (if kd = 5 then four (i32 (W 14 (20 * t + o))) else [])
theorem obV_l (W : Ab) (kd t o : Nat) : (obV W kd t o).length ≤ 5 ∧ By (obV W kd t o) := by
  unfold obV
  split
  · exact ⟨Nat.le_refl 5, (By.one (bt_lt _)).app (four_by _)⟩
  · exact ⟨by show 1 ≤ 5; omega, By.one (bt_lt _)⟩
noncomputable def obB (W : Ab) (kd t : Nat) (p : Nat → Prop) : Nat → List Nat
  | 0 => []
  | o + 1 => @ite _ (p o) (Classical.propDecidable _) (obB W kd t p o ++ obV W kd t o) (obB W kd t p o)
theorem obB_t {W : Ab} {kd t : Nat} {p : Nat → Prop} {o : Nat} (h : p o) : obB W kd t p (o + 1) = obB W kd t p o ++ obV W kd t o := if_pos h
theorem obB_f {W : Ab} {kd t : Nat} {p : Nat → Prop} {o : Nat} (h : ¬ p o) : obB W kd t p (o + 1) = obB W kd t p o := if_neg h
theorem obB_l (W : Ab) (kd t : Nat) (p : Nat → Prop) : ∀ n, (obB W kd t p n).length ≤ 5 * n ∧ By (obB W kd t p n)
  | 0 => ⟨Nat.le_refl 0, By.nil⟩
  | n + 1 => by
    have ih := obB_l W kd t p n
    have ho := obV_l W kd t n
    by_cases c : p n
    · rw [obB_t c, List.length_append]; exact ⟨by omega, ih.2.app ho.2⟩
    · rw [obB_f c]; exact ⟨by omega, ih.2⟩
def chB (W : Ab) (t : Nat) : Nat → List Nat
  | 0 => []
  | j + 1 => chB W t j ++ [bt (i32 (W 15 (20 * t + j))), bt (i32 (W 16 (20 * t + j)))]
theorem chB_l (W : Ab) (t : Nat) : ∀ n, (chB W t n).length = 2 * n ∧ By (chB W t n)
  | 0 => ⟨rfl, By.nil⟩
  | n + 1 => ⟨by show (chB W t n ++ _).length = _; rw [List.length_append, (chB_l W t n).1]; show 2 * n + 2 = _; omega, (chB_l W t n).2.app ((By.one (bt_lt _)).app (By.one (bt_lt _)))⟩
/-- the reference's page -/
def Pg (W W' : Ab) (L : List Nat) : Prop := (∀ i j, i ≠ 21 → i ≠ 0 ∨ j ≠ 26 → W' i j = W i j) ∧ W' 0 26 = L.length ∧ (∀ i, i < L.length → W' 21 i = gt L i) ∧ ∀ i, W' 21 i < 4294967296
section
variable {x : Cx} {k B : Nat} {C W W0 : Ab} {M : Mm}
theorem s_put {W' : Ab} {L : List Nat} (h : St x B C W' M) (g : Pg W W' L) (hl : L.length < 300) (v : Int32) : ∃ W2 M2, fX5_put x k (B + 25) v M = some ((), M2) ∧ St x B C W2 M2 ∧ Pg W W2 (L ++ [bt v]) := by
  have h1 := su21 h (W' 0 26) (bt v)
  have h2 := su0 h1 26 (W' 0 26 + 1)
  have e26 := g.2.1
  rw [bt_i] at h1 h2
  refine ⟨_, _, ?_, h2, fun i j h1 h2 => ?_, ?_, fun i hi => ?_, fun i => ?_⟩
  · unfold fX5_put
    repeat (first
      | (with_reducible refine e_l1 ?_)
      | ((with_reducible refine e_k ?_ (mkM h) ?_); focus rfl)
      | ((with_reducible refine e_p ?_ (mp1 h) ?_); focus rfl)
      | ((with_reducible refine e_p ?_ (mp2 h) ?_); focus rfl)
      | ((with_reducible refine e_p ?_ (mp3 h) ?_); focus rfl)
      | ((with_reducible refine e_p ?_ (mp4 h) ?_); focus rfl)
      | ((with_reducible refine e_p ?_ (mp5 h) ?_); focus rfl)
      | ((with_reducible refine e_p ?_ (mp6 h) ?_); focus rfl)
      | ((with_reducible refine e_p ?_ (mp7 h) ?_); focus rfl)
      | ((with_reducible refine e_p ?_ (mp8 h) ?_); focus rfl)
      | ((with_reducible refine e_p ?_ (mp9 h) ?_); focus rfl)
      | ((with_reducible refine e_p ?_ (mp10 h) ?_); focus rfl)
      | ((with_reducible refine e_p ?_ (mp11 h) ?_); focus rfl)
      | ((with_reducible refine e_p ?_ (mp12 h) ?_); focus rfl)
      | ((with_reducible refine e_p ?_ (mp13 h) ?_); focus rfl)
      | ((with_reducible refine e_p ?_ (mp14 h) ?_); focus rfl)
      | ((with_reducible refine e_p ?_ (mp15 h) ?_); focus rfl)
      | ((with_reducible refine e_p ?_ (mp16 h) ?_); focus rfl)
      | ((with_reducible refine e_p ?_ (mp17 h) ?_); focus rfl)
      | ((with_reducible refine e_p ?_ (mp18 h) ?_); focus rfl)
      | ((with_reducible refine e_p ?_ (mp19 h) ?_); focus rfl)
      | ((with_reducible refine e_p ?_ (mp20 h) ?_); focus rfl)
      | ((with_reducible refine e_p ?_ (mp21 h) ?_); focus rfl)
      | ((with_reducible refine e_ip ?_ ?_); focus (simp (disch := omega) only [b_all, sV_all, ↓reduceIte, Nat.reduceEqDiff, Nat.reduceLT, Nat.reduceLeDiff, Nat.reduceAdd, Nat.reduceMul, Nat.reduceSub, i_lit, eq_self, and_true, true_and, and_self, not_true_eq_false, not_false_eq_true, or_true, true_or, or_false, false_or, false_and, and_false, reduceCtorEq, Nat.add_left_cancel_iff, Nat.add_zero, Nat.zero_add, md_all h]; done))
      | ((with_reducible refine e_in ?_ ?_); focus (simp (disch := omega) only [b_all, sV_all, ↓reduceIte, Nat.reduceEqDiff, Nat.reduceLT, Nat.reduceLeDiff, Nat.reduceAdd, Nat.reduceMul, Nat.reduceSub, i_lit, eq_self, and_true, true_and, and_self, not_true_eq_false, not_false_eq_true, or_true, true_or, or_false, false_or, false_and, and_false, reduceCtorEq, Nat.add_left_cancel_iff, Nat.add_zero, Nat.zero_add, md_all h]; done))
      | fail)
    first | with_reducible rfl | simp (disch := omega) only [b_all, sV_all, ↓reduceIte, Nat.reduceEqDiff, Nat.reduceLT, Nat.reduceLeDiff, Nat.reduceAdd, Nat.reduceMul, Nat.reduceSub, i_lit, eq_self, and_true, true_and, and_self, not_true_eq_false, not_false_eq_true, or_true, true_or, or_false, false_or, false_and, and_false, reduceCtorEq, Nat.add_left_cancel_iff, Nat.add_zero, Nat.zero_add, md_all h]
  · rw [U_ne _ (by omega), U_r _ h1]; exact g.1 i j h1 h2
  · rw [U_s, List.length_append, e26]; rfl
  · rw [List.length_append] at hi
    have hi' : i < L.length + 1 := hi
    rw [U_r _ (by omega)]
    by_cases c : i = W' 0 26
    · rw [c, U_s, e26, gt_r (Nat.le_refl _), Nat.sub_self]; rfl
    · rw [U_k _ _ _ c, gt_l (by omega)]; exact g.2.2.1 i (by omega)
  · rw [U_r _ (by omega)]
    have := bt_lt v
    by_cases c : i = W' 0 26
    · rw [c, U_s]; omega
    · rw [U_k _ _ _ c]; exact g.2.2.2 i
theorem s_putTwo {W' : Ab} {L : List Nat} (h : St x B C W' M) (g : Pg W W' L) (hl : L.length < 299) (v : Int32) : ∃ W2 M2, fX5_putTwo x k (B + 25) v M = some ((), M2) ∧ St x B C W2 M2 ∧ Pg W W2 (L ++ two v) := by
  obtain ⟨W1, M1, e1, h1, g1⟩ := s_put (k := k) h g (by omega) (v >>> (i32 8 &&& i32 31))
  obtain ⟨W2, M2, e2, h2, g2⟩ := s_put (k := k) h1 g1 (by rw [List.length_append]; show L.length + 1 < 300; omega) v
  refine ⟨W2, M2, ?_, h2, by rw [List.append_assoc] at g2; exact g2⟩
  unfold fX5_putTwo
  repeat (first
    | (with_reducible refine e_l1 ?_)
    | ((with_reducible refine e_k ?_ (mkM h) ?_); focus rfl)
    | ((with_reducible refine e_p ?_ (mp1 h) ?_); focus rfl)
    | ((with_reducible refine e_p ?_ (mp2 h) ?_); focus rfl)
    | ((with_reducible refine e_p ?_ (mp3 h) ?_); focus rfl)
    | ((with_reducible refine e_p ?_ (mp4 h) ?_); focus rfl)
    | ((with_reducible refine e_p ?_ (mp5 h) ?_); focus rfl)
    | ((with_reducible refine e_p ?_ (mp6 h) ?_); focus rfl)
    | ((with_reducible refine e_p ?_ (mp7 h) ?_); focus rfl)
    | ((with_reducible refine e_p ?_ (mp8 h) ?_); focus rfl)
    | ((with_reducible refine e_p ?_ (mp9 h) ?_); focus rfl)
    | ((with_reducible refine e_p ?_ (mp10 h) ?_); focus rfl)
    | ((with_reducible refine e_p ?_ (mp11 h) ?_); focus rfl)
    | ((with_reducible refine e_p ?_ (mp12 h) ?_); focus rfl)
    | ((with_reducible refine e_p ?_ (mp13 h) ?_); focus rfl)
    | ((with_reducible refine e_p ?_ (mp14 h) ?_); focus rfl)
    | ((with_reducible refine e_p ?_ (mp15 h) ?_); focus rfl)
    | ((with_reducible refine e_p ?_ (mp16 h) ?_); focus rfl)
    | ((with_reducible refine e_p ?_ (mp17 h) ?_); focus rfl)
    | ((with_reducible refine e_p ?_ (mp18 h) ?_); focus rfl)
    | ((with_reducible refine e_p ?_ (mp19 h) ?_); focus rfl)
    | ((with_reducible refine e_p ?_ (mp20 h) ?_); focus rfl)
    | ((with_reducible refine e_p ?_ (mp21 h) ?_); focus rfl)
    | ((with_reducible refine e_k ?_ (mkM h1) ?_); focus rfl)
    | ((with_reducible refine e_p ?_ (mp1 h1) ?_); focus rfl)
    | ((with_reducible refine e_p ?_ (mp2 h1) ?_); focus rfl)
    | ((with_reducible refine e_p ?_ (mp3 h1) ?_); focus rfl)
    | ((with_reducible refine e_p ?_ (mp4 h1) ?_); focus rfl)
    | ((with_reducible refine e_p ?_ (mp5 h1) ?_); focus rfl)
    | ((with_reducible refine e_p ?_ (mp6 h1) ?_); focus rfl)
    | ((with_reducible refine e_p ?_ (mp7 h1) ?_); focus rfl)
    | ((with_reducible refine e_p ?_ (mp8 h1) ?_); focus rfl)
    | ((with_reducible refine e_p ?_ (mp9 h1) ?_); focus rfl)
    | ((with_reducible refine e_p ?_ (mp10 h1) ?_); focus rfl)
    | ((with_reducible refine e_p ?_ (mp11 h1) ?_); focus rfl)
    | ((with_reducible refine e_p ?_ (mp12 h1) ?_); focus rfl)
    | ((with_reducible refine e_p ?_ (mp13 h1) ?_); focus rfl)
    | ((with_reducible refine e_p ?_ (mp14 h1) ?_); focus rfl)
    | ((with_reducible refine e_p ?_ (mp15 h1) ?_); focus rfl)
    | ((with_reducible refine e_p ?_ (mp16 h1) ?_); focus rfl)
    | ((with_reducible refine e_p ?_ (mp17 h1) ?_); focus rfl)
    | ((with_reducible refine e_p ?_ (mp18 h1) ?_); focus rfl)
    | ((with_reducible refine e_p ?_ (mp19 h1) ?_); focus rfl)
    | ((with_reducible refine e_p ?_ (mp20 h1) ?_); focus rfl)
    | ((with_reducible refine e_p ?_ (mp21 h1) ?_); focus rfl)
    | ((with_reducible refine e_o2 ?_ e1 ?_); focus (first | with_reducible rfl | (simp (disch := omega) only [b_all, sV_all, ↓reduceIte, Nat.reduceEqDiff, Nat.reduceLT, Nat.reduceLeDiff, Nat.reduceAdd, Nat.reduceMul, Nat.reduceSub, i_lit, eq_self, and_true, true_and, and_self, not_true_eq_false, not_false_eq_true, or_true, true_or, or_false, false_or, false_and, and_false, reduceCtorEq, Nat.add_left_cancel_iff, Nat.add_zero, Nat.zero_add, md_all h, md_all h1]; done)))
    | ((with_reducible refine e_o2 ?_ e2 ?_); focus (first | with_reducible rfl | (simp (disch := omega) only [b_all, sV_all, ↓reduceIte, Nat.reduceEqDiff, Nat.reduceLT, Nat.reduceLeDiff, Nat.reduceAdd, Nat.reduceMul, Nat.reduceSub, i_lit, eq_self, and_true, true_and, and_self, not_true_eq_false, not_false_eq_true, or_true, true_or, or_false, false_or, false_and, and_false, reduceCtorEq, Nat.add_left_cancel_iff, Nat.add_zero, Nat.zero_add, md_all h, md_all h1]; done)))
    | ((with_reducible refine e_ip ?_ ?_); focus (simp (disch := omega) only [b_all, sV_all, ↓reduceIte, Nat.reduceEqDiff, Nat.reduceLT, Nat.reduceLeDiff, Nat.reduceAdd, Nat.reduceMul, Nat.reduceSub, i_lit, eq_self, and_true, true_and, and_self, not_true_eq_false, not_false_eq_true, or_true, true_or, or_false, false_or, false_and, and_false, reduceCtorEq, Nat.add_left_cancel_iff, Nat.add_zero, Nat.zero_add, md_all h, md_all h1]; done))
    | ((with_reducible refine e_in ?_ ?_); focus (simp (disch := omega) only [b_all, sV_all, ↓reduceIte, Nat.reduceEqDiff, Nat.reduceLT, Nat.reduceLeDiff, Nat.reduceAdd, Nat.reduceMul, Nat.reduceSub, i_lit, eq_self, and_true, true_and, and_self, not_true_eq_false, not_false_eq_true, or_true, true_or, or_false, false_or, false_and, and_false, reduceCtorEq, Nat.add_left_cancel_iff, Nat.add_zero, Nat.zero_add, md_all h, md_all h1]; done))
    | fail)
  first | with_reducible rfl | simp (disch := omega) only [b_all, sV_all, ↓reduceIte, Nat.reduceEqDiff, Nat.reduceLT, Nat.reduceLeDiff, Nat.reduceAdd, Nat.reduceMul, Nat.reduceSub, i_lit, eq_self, and_true, true_and, and_self, not_true_eq_false, not_false_eq_true, or_true, true_or, or_false, false_or, false_and, and_false, reduceCtorEq, Nat.add_left_cancel_iff, Nat.add_zero, Nat.zero_add, md_all h, md_all h1]
theorem s_putStart2 {t : Nat} (ht : t < 200) (hb : 2 ≤ W 0 0 ∧ W 0 0 ≤ 5) (L : List Nat) (hl : L.length < 250) : ∀ n j W' M, St x B C W' M → Pg W W' (L ++ stB W t j) → j ≤ W 0 0 → W 0 0 < n + j → ∃ W2 M2, fX5_putStart_2 x k n (B + 25) (i32 t) (i32 j) M = some ((), M2) ∧ St x B C W2 M2 ∧ Pg W W2 (L ++ stB W t (W 0 0)) := by
  intro n
  induction n with
  | zero => intro j W' M _ _ h1 h2; omega
  | succ n ih =>
    intro j W' M h g hj hn
    have e00 : W' 0 0 = W 0 0 := g.1 _ _ (by omega) (by omega)
    by_cases c : W 0 0 ≤ j
    · obtain rfl : j = W 0 0 := by omega
      refine ⟨W', M, ?_, h, g⟩
      rw [fX5_putStart_2]
      repeat (first
        | (with_reducible refine e_l1 ?_)
        | ((with_reducible refine e_k ?_ (mkM h) ?_); focus rfl)
        | ((with_reducible refine e_p ?_ (mp1 h) ?_); focus rfl)
        | ((with_reducible refine e_p ?_ (mp2 h) ?_); focus rfl)
        | ((with_reducible refine e_p ?_ (mp3 h) ?_); focus rfl)
        | ((with_reducible refine e_p ?_ (mp4 h) ?_); focus rfl)
        | ((with_reducible refine e_p ?_ (mp5 h) ?_); focus rfl)
        | ((with_reducible refine e_p ?_ (mp6 h) ?_); focus rfl)
        | ((with_reducible refine e_p ?_ (mp7 h) ?_); focus rfl)
        | ((with_reducible refine e_p ?_ (mp8 h) ?_); focus rfl)
        | ((with_reducible refine e_p ?_ (mp9 h) ?_); focus rfl)
        | ((with_reducible refine e_p ?_ (mp10 h) ?_); focus rfl)
        | ((with_reducible refine e_p ?_ (mp11 h) ?_); focus rfl)
        | ((with_reducible refine e_p ?_ (mp12 h) ?_); focus rfl)
        | ((with_reducible refine e_p ?_ (mp13 h) ?_); focus rfl)
        | ((with_reducible refine e_p ?_ (mp14 h) ?_); focus rfl)
        | ((with_reducible refine e_p ?_ (mp15 h) ?_); focus rfl)
        | ((with_reducible refine e_p ?_ (mp16 h) ?_); focus rfl)
        | ((with_reducible refine e_p ?_ (mp17 h) ?_); focus rfl)
        | ((with_reducible refine e_p ?_ (mp18 h) ?_); focus rfl)
        | ((with_reducible refine e_p ?_ (mp19 h) ?_); focus rfl)
        | ((with_reducible refine e_p ?_ (mp20 h) ?_); focus rfl)
        | ((with_reducible refine e_p ?_ (mp21 h) ?_); focus rfl)
        | ((with_reducible refine e_ip ?_ ?_); focus (simp (disch := omega) only [b_all, sV_all, ↓reduceIte, Nat.reduceEqDiff, Nat.reduceLT, Nat.reduceLeDiff, Nat.reduceAdd, Nat.reduceMul, Nat.reduceSub, i_lit, eq_self, and_true, true_and, and_self, not_true_eq_false, not_false_eq_true, or_true, true_or, or_false, false_or, false_and, and_false, reduceCtorEq, Nat.add_left_cancel_iff, Nat.add_zero, Nat.zero_add, md_all h, e00]; done))
        | ((with_reducible refine e_in ?_ ?_); focus (simp (disch := omega) only [b_all, sV_all, ↓reduceIte, Nat.reduceEqDiff, Nat.reduceLT, Nat.reduceLeDiff, Nat.reduceAdd, Nat.reduceMul, Nat.reduceSub, i_lit, eq_self, and_true, true_and, and_self, not_true_eq_false, not_false_eq_true, or_true, true_or, or_false, false_or, false_and, and_false, reduceCtorEq, Nat.add_left_cancel_iff, Nat.add_zero, Nat.zero_add, md_all h, e00]; done))
        | fail)
      first | with_reducible rfl | simp (disch := omega) only [b_all, sV_all, ↓reduceIte, Nat.reduceEqDiff, Nat.reduceLT, Nat.reduceLeDiff, Nat.reduceAdd, Nat.reduceMul, Nat.reduceSub, i_lit, eq_self, and_true, true_and, and_self, not_true_eq_false, not_false_eq_true, or_true, true_or, or_false, false_or, false_and, and_false, reduceCtorEq, Nat.add_left_cancel_iff, Nat.add_zero, Nat.zero_add, md_all h, e00]
    · have e7 : W' 7 (5 * t + j) = W 7 (5 * t + j) := g.1 _ _ (by omega) (by omega)
      have hl' := (stB_l W t j).1
      obtain ⟨W1, M1, e1, h1, g1⟩ := s_putTwo (k := k) h g (by rw [List.length_append]; omega) (i32 (W 7 (5 * t + j)))
      obtain ⟨W2, M2, e2, h2, g2⟩ := ih (j + 1) W1 M1 h1 (by rw [List.append_assoc] at g1; exact g1) (by omega) (by omega)
      refine ⟨W2, M2, ?_, h2, g2⟩
      rw [← e2, fX5_putStart_2]
      repeat (first
        | (with_reducible refine e_l1 ?_)
        | ((with_reducible refine e_k ?_ (mkM h) ?_); focus rfl)
        | ((with_reducible refine e_p ?_ (mp1 h) ?_); focus rfl)
        | ((with_reducible refine e_p ?_ (mp2 h) ?_); focus rfl)
        | ((with_reducible refine e_p ?_ (mp3 h) ?_); focus rfl)
        | ((with_reducible refine e_p ?_ (mp4 h) ?_); focus rfl)
        | ((with_reducible refine e_p ?_ (mp5 h) ?_); focus rfl)
        | ((with_reducible refine e_p ?_ (mp6 h) ?_); focus rfl)
        | ((with_reducible refine e_p ?_ (mp7 h) ?_); focus rfl)
        | ((with_reducible refine e_p ?_ (mp8 h) ?_); focus rfl)
        | ((with_reducible refine e_p ?_ (mp9 h) ?_); focus rfl)
        | ((with_reducible refine e_p ?_ (mp10 h) ?_); focus rfl)
        | ((with_reducible refine e_p ?_ (mp11 h) ?_); focus rfl)
        | ((with_reducible refine e_p ?_ (mp12 h) ?_); focus rfl)
        | ((with_reducible refine e_p ?_ (mp13 h) ?_); focus rfl)
        | ((with_reducible refine e_p ?_ (mp14 h) ?_); focus rfl)
        | ((with_reducible refine e_p ?_ (mp15 h) ?_); focus rfl)
        | ((with_reducible refine e_p ?_ (mp16 h) ?_); focus rfl)
        | ((with_reducible refine e_p ?_ (mp17 h) ?_); focus rfl)
        | ((with_reducible refine e_p ?_ (mp18 h) ?_); focus rfl)
        | ((with_reducible refine e_p ?_ (mp19 h) ?_); focus rfl)
        | ((with_reducible refine e_p ?_ (mp20 h) ?_); focus rfl)
        | ((with_reducible refine e_p ?_ (mp21 h) ?_); focus rfl)
        | ((with_reducible refine e_o2 ?_ e1 ?_); focus (first | with_reducible rfl | (simp (disch := omega) only [b_all, sV_all, ↓reduceIte, Nat.reduceEqDiff, Nat.reduceLT, Nat.reduceLeDiff, Nat.reduceAdd, Nat.reduceMul, Nat.reduceSub, i_lit, eq_self, and_true, true_and, and_self, not_true_eq_false, not_false_eq_true, or_true, true_or, or_false, false_or, false_and, and_false, reduceCtorEq, Nat.add_left_cancel_iff, Nat.add_zero, Nat.zero_add, md_all h, e00, e7]; done)))
        | ((with_reducible refine e_ip ?_ ?_); focus (simp (disch := omega) only [b_all, sV_all, ↓reduceIte, Nat.reduceEqDiff, Nat.reduceLT, Nat.reduceLeDiff, Nat.reduceAdd, Nat.reduceMul, Nat.reduceSub, i_lit, eq_self, and_true, true_and, and_self, not_true_eq_false, not_false_eq_true, or_true, true_or, or_false, false_or, false_and, and_false, reduceCtorEq, Nat.add_left_cancel_iff, Nat.add_zero, Nat.zero_add, md_all h, e00, e7]; done))
        | ((with_reducible refine e_in ?_ ?_); focus (simp (disch := omega) only [b_all, sV_all, ↓reduceIte, Nat.reduceEqDiff, Nat.reduceLT, Nat.reduceLeDiff, Nat.reduceAdd, Nat.reduceMul, Nat.reduceSub, i_lit, eq_self, and_true, true_and, and_self, not_true_eq_false, not_false_eq_true, or_true, true_or, or_false, false_or, false_and, and_false, reduceCtorEq, Nat.add_left_cancel_iff, Nat.add_zero, Nat.zero_add, md_all h, e00, e7]; done))
        | fail)
      first | with_reducible rfl | simp (disch := omega) only [b_all, sV_all, ↓reduceIte, Nat.reduceEqDiff, Nat.reduceLT, Nat.reduceLeDiff, Nat.reduceAdd, Nat.reduceMul, Nat.reduceSub, i_lit, eq_self, and_true, true_and, and_self, not_true_eq_false, not_false_eq_true, or_true, true_or, or_false, false_or, false_and, and_false, reduceCtorEq, Nat.add_left_cancel_iff, Nat.add_zero, Nat.zero_add, md_all h, e00, e7]
theorem s_putStart (hk : 5000 ≤ k) {W' : Ab} {L : List Nat} (h : St x B C W' M) (g : Pg W W' L) {t : Nat} (ht : t < 200) (hb : 2 ≤ W 0 0 ∧ W 0 0 ≤ 5) (hl : L.length < 250) : ∃ W2 M2, fX5_putStart x k (B + 25) (i32 t) M = some ((), M2) ∧ St x B C W2 M2 ∧ Pg W W2 (L ++ stB W t (W 0 0)) :=
  s_putStart2 ht hb L hl k 0 W' M h (by rw [show stB W t 0 = [] from rfl, List.append_nil]; exact g) (by omega) (by omega)
/-- check and answer -/
theorem s_b337 {w : Nat} (hw : w < 4294967296) {W' : Ab} {L : List Nat} (h : St x B C W' M) (g : Pg W W' L) (by' : By L) (hl : L.length < 290) : ∀ n i, i ≤ L.length → L.length < n + i → ∃ W2 M2, fX5_byteOf_337 x k n (B + 25) (i32 w) (i32 (chkG (gt L) i)) (i32 i) M = some (i32 (fnd (L ++ two (i32 (chk L))) w), M2) ∧ St x B C W2 M2 ∧ Pg W W2 (L ++ two (i32 (chk L))) := by
  intro n
  induction n with
  | zero => intro i h1 h2; omega
  | succ n ih =>
    intro i hi hn
    have e26 := g.2.1
    by_cases c : L.length ≤ i
    · obtain rfl : i = L.length := by omega
      obtain ⟨W1, M1, e1, h1, g1⟩ := s_putTwo (k := k) h g (by omega) (i32 (chk L))
      have e1' : fX5_putTwo x k (B + 25) (i32 (chkG (gt L) L.length)) M = some ((), M1) := e1
      have e26' := g1.2.1
      have ll : (L ++ two (i32 (chk L))).length = L.length + 2 := by rw [List.length_append]; rfl
      refine ⟨W1, M1, ?_, h1, g1⟩
      rw [ll] at e26'
      rw [fX5_byteOf_337]
      by_cases cw : 2147483648 ≤ w
      · have en := i_neg hw
        have ef : fnd (L ++ two (i32 (chk L))) w = 4294967295 := by unfold fnd; rw [if_neg (by omega)]
        rw [ef]
        repeat (first
          | (with_reducible refine e_l1 ?_)
          | ((with_reducible refine e_k ?_ (mkM h) ?_); focus rfl)
          | ((with_reducible refine e_p ?_ (mp1 h) ?_); focus rfl)
          | ((with_reducible refine e_p ?_ (mp2 h) ?_); focus rfl)
          | ((with_reducible refine e_p ?_ (mp3 h) ?_); focus rfl)
          | ((with_reducible refine e_p ?_ (mp4 h) ?_); focus rfl)
          | ((with_reducible refine e_p ?_ (mp5 h) ?_); focus rfl)
          | ((with_reducible refine e_p ?_ (mp6 h) ?_); focus rfl)
          | ((with_reducible refine e_p ?_ (mp7 h) ?_); focus rfl)
          | ((with_reducible refine e_p ?_ (mp8 h) ?_); focus rfl)
          | ((with_reducible refine e_p ?_ (mp9 h) ?_); focus rfl)
          | ((with_reducible refine e_p ?_ (mp10 h) ?_); focus rfl)
          | ((with_reducible refine e_p ?_ (mp11 h) ?_); focus rfl)
          | ((with_reducible refine e_p ?_ (mp12 h) ?_); focus rfl)
          | ((with_reducible refine e_p ?_ (mp13 h) ?_); focus rfl)
          | ((with_reducible refine e_p ?_ (mp14 h) ?_); focus rfl)
          | ((with_reducible refine e_p ?_ (mp15 h) ?_); focus rfl)
          | ((with_reducible refine e_p ?_ (mp16 h) ?_); focus rfl)
          | ((with_reducible refine e_p ?_ (mp17 h) ?_); focus rfl)
          | ((with_reducible refine e_p ?_ (mp18 h) ?_); focus rfl)
          | ((with_reducible refine e_p ?_ (mp19 h) ?_); focus rfl)
          | ((with_reducible refine e_p ?_ (mp20 h) ?_); focus rfl)
          | ((with_reducible refine e_p ?_ (mp21 h) ?_); focus rfl)
          | ((with_reducible refine e_k ?_ (mkM h1) ?_); focus rfl)
          | ((with_reducible refine e_p ?_ (mp1 h1) ?_); focus rfl)
          | ((with_reducible refine e_p ?_ (mp2 h1) ?_); focus rfl)
          | ((with_reducible refine e_p ?_ (mp3 h1) ?_); focus rfl)
          | ((with_reducible refine e_p ?_ (mp4 h1) ?_); focus rfl)
          | ((with_reducible refine e_p ?_ (mp5 h1) ?_); focus rfl)
          | ((with_reducible refine e_p ?_ (mp6 h1) ?_); focus rfl)
          | ((with_reducible refine e_p ?_ (mp7 h1) ?_); focus rfl)
          | ((with_reducible refine e_p ?_ (mp8 h1) ?_); focus rfl)
          | ((with_reducible refine e_p ?_ (mp9 h1) ?_); focus rfl)
          | ((with_reducible refine e_p ?_ (mp10 h1) ?_); focus rfl)
          | ((with_reducible refine e_p ?_ (mp11 h1) ?_); focus rfl)
          | ((with_reducible refine e_p ?_ (mp12 h1) ?_); focus rfl)
          | ((with_reducible refine e_p ?_ (mp13 h1) ?_); focus rfl)
          | ((with_reducible refine e_p ?_ (mp14 h1) ?_); focus rfl)
          | ((with_reducible refine e_p ?_ (mp15 h1) ?_); focus rfl)
          | ((with_reducible refine e_p ?_ (mp16 h1) ?_); focus rfl)
          | ((with_reducible refine e_p ?_ (mp17 h1) ?_); focus rfl)
          | ((with_reducible refine e_p ?_ (mp18 h1) ?_); focus rfl)
          | ((with_reducible refine e_p ?_ (mp19 h1) ?_); focus rfl)
          | ((with_reducible refine e_p ?_ (mp20 h1) ?_); focus rfl)
          | ((with_reducible refine e_p ?_ (mp21 h1) ?_); focus rfl)
          | ((with_reducible refine e_o2 ?_ e1' ?_); focus (first | with_reducible rfl | (simp (disch := omega) only [b_all, sV_all, ↓reduceIte, Nat.reduceEqDiff, Nat.reduceLT, Nat.reduceLeDiff, Nat.reduceAdd, Nat.reduceMul, Nat.reduceSub, i_lit, eq_self, and_true, true_and, and_self, not_true_eq_false, not_false_eq_true, or_true, true_or, or_false, false_or, false_and, and_false, reduceCtorEq, Nat.add_left_cancel_iff, Nat.add_zero, Nat.zero_add, md_all h, md_all h1, e26, e26', en]; done)))
          | ((with_reducible refine e_ip ?_ ?_); focus (simp (disch := omega) only [b_all, sV_all, ↓reduceIte, Nat.reduceEqDiff, Nat.reduceLT, Nat.reduceLeDiff, Nat.reduceAdd, Nat.reduceMul, Nat.reduceSub, i_lit, eq_self, and_true, true_and, and_self, not_true_eq_false, not_false_eq_true, or_true, true_or, or_false, false_or, false_and, and_false, reduceCtorEq, Nat.add_left_cancel_iff, Nat.add_zero, Nat.zero_add, md_all h, md_all h1, e26, e26', en]; done))
          | ((with_reducible refine e_in ?_ ?_); focus (simp (disch := omega) only [b_all, sV_all, ↓reduceIte, Nat.reduceEqDiff, Nat.reduceLT, Nat.reduceLeDiff, Nat.reduceAdd, Nat.reduceMul, Nat.reduceSub, i_lit, eq_self, and_true, true_and, and_self, not_true_eq_false, not_false_eq_true, or_true, true_or, or_false, false_or, false_and, and_false, reduceCtorEq, Nat.add_left_cancel_iff, Nat.add_zero, Nat.zero_add, md_all h, md_all h1, e26, e26', en]; done))
          | unfold fX5_byteOf_402
          | unfold fX5_byteOf_403
          | fail)
        first | with_reducible rfl | simp (disch := omega) only [b_all, sV_all, ↓reduceIte, Nat.reduceEqDiff, Nat.reduceLT, Nat.reduceLeDiff, Nat.reduceAdd, Nat.reduceMul, Nat.reduceSub, i_lit, eq_self, and_true, true_and, and_self, not_true_eq_false, not_false_eq_true, or_true, true_or, or_false, false_or, false_and, and_false, reduceCtorEq, Nat.add_left_cancel_iff, Nat.add_zero, Nat.zero_add, md_all h, md_all h1, e26, e26', en]
      · by_cases cw2 : L.length + 2 ≤ w
        · have ef : fnd (L ++ two (i32 (chk L))) w = 4294967295 := by unfold fnd; rw [if_neg (by omega)]
          rw [ef]
          repeat (first
            | (with_reducible refine e_l1 ?_)
            | ((with_reducible refine e_k ?_ (mkM h) ?_); focus rfl)
            | ((with_reducible refine e_p ?_ (mp1 h) ?_); focus rfl)
            | ((with_reducible refine e_p ?_ (mp2 h) ?_); focus rfl)
            | ((with_reducible refine e_p ?_ (mp3 h) ?_); focus rfl)
            | ((with_reducible refine e_p ?_ (mp4 h) ?_); focus rfl)
            | ((with_reducible refine e_p ?_ (mp5 h) ?_); focus rfl)
            | ((with_reducible refine e_p ?_ (mp6 h) ?_); focus rfl)
            | ((with_reducible refine e_p ?_ (mp7 h) ?_); focus rfl)
            | ((with_reducible refine e_p ?_ (mp8 h) ?_); focus rfl)
            | ((with_reducible refine e_p ?_ (mp9 h) ?_); focus rfl)
            | ((with_reducible refine e_p ?_ (mp10 h) ?_); focus rfl)
            | ((with_reducible refine e_p ?_ (mp11 h) ?_); focus rfl)
            | ((with_reducible refine e_p ?_ (mp12 h) ?_); focus rfl)
            | ((with_reducible refine e_p ?_ (mp13 h) ?_); focus rfl)
            | ((with_reducible refine e_p ?_ (mp14 h) ?_); focus rfl)
            | ((with_reducible refine e_p ?_ (mp15 h) ?_); focus rfl)
            | ((with_reducible refine e_p ?_ (mp16 h) ?_); focus rfl)
            | ((with_reducible refine e_p ?_ (mp17 h) ?_); focus rfl)
            | ((with_reducible refine e_p ?_ (mp18 h) ?_); focus rfl)
            | ((with_reducible refine e_p ?_ (mp19 h) ?_); focus rfl)
            | ((with_reducible refine e_p ?_ (mp20 h) ?_); focus rfl)
            | ((with_reducible refine e_p ?_ (mp21 h) ?_); focus rfl)
            | ((with_reducible refine e_k ?_ (mkM h1) ?_); focus rfl)
            | ((with_reducible refine e_p ?_ (mp1 h1) ?_); focus rfl)
            | ((with_reducible refine e_p ?_ (mp2 h1) ?_); focus rfl)
            | ((with_reducible refine e_p ?_ (mp3 h1) ?_); focus rfl)
            | ((with_reducible refine e_p ?_ (mp4 h1) ?_); focus rfl)
            | ((with_reducible refine e_p ?_ (mp5 h1) ?_); focus rfl)
            | ((with_reducible refine e_p ?_ (mp6 h1) ?_); focus rfl)
            | ((with_reducible refine e_p ?_ (mp7 h1) ?_); focus rfl)
            | ((with_reducible refine e_p ?_ (mp8 h1) ?_); focus rfl)
            | ((with_reducible refine e_p ?_ (mp9 h1) ?_); focus rfl)
            | ((with_reducible refine e_p ?_ (mp10 h1) ?_); focus rfl)
            | ((with_reducible refine e_p ?_ (mp11 h1) ?_); focus rfl)
            | ((with_reducible refine e_p ?_ (mp12 h1) ?_); focus rfl)
            | ((with_reducible refine e_p ?_ (mp13 h1) ?_); focus rfl)
            | ((with_reducible refine e_p ?_ (mp14 h1) ?_); focus rfl)
            | ((with_reducible refine e_p ?_ (mp15 h1) ?_); focus rfl)
            | ((with_reducible refine e_p ?_ (mp16 h1) ?_); focus rfl)
            | ((with_reducible refine e_p ?_ (mp17 h1) ?_); focus rfl)
            | ((with_reducible refine e_p ?_ (mp18 h1) ?_); focus rfl)
            | ((with_reducible refine e_p ?_ (mp19 h1) ?_); focus rfl)
            | ((with_reducible refine e_p ?_ (mp20 h1) ?_); focus rfl)
            | ((with_reducible refine e_p ?_ (mp21 h1) ?_); focus rfl)
            | ((with_reducible refine e_o2 ?_ e1' ?_); focus (first | with_reducible rfl | (simp (disch := omega) only [b_all, sV_all, ↓reduceIte, Nat.reduceEqDiff, Nat.reduceLT, Nat.reduceLeDiff, Nat.reduceAdd, Nat.reduceMul, Nat.reduceSub, i_lit, eq_self, and_true, true_and, and_self, not_true_eq_false, not_false_eq_true, or_true, true_or, or_false, false_or, false_and, and_false, reduceCtorEq, Nat.add_left_cancel_iff, Nat.add_zero, Nat.zero_add, md_all h, md_all h1, e26, e26']; done)))
            | ((with_reducible refine e_ip ?_ ?_); focus (simp (disch := omega) only [b_all, sV_all, ↓reduceIte, Nat.reduceEqDiff, Nat.reduceLT, Nat.reduceLeDiff, Nat.reduceAdd, Nat.reduceMul, Nat.reduceSub, i_lit, eq_self, and_true, true_and, and_self, not_true_eq_false, not_false_eq_true, or_true, true_or, or_false, false_or, false_and, and_false, reduceCtorEq, Nat.add_left_cancel_iff, Nat.add_zero, Nat.zero_add, md_all h, md_all h1, e26, e26']; done))
            | ((with_reducible refine e_in ?_ ?_); focus (simp (disch := omega) only [b_all, sV_all, ↓reduceIte, Nat.reduceEqDiff, Nat.reduceLT, Nat.reduceLeDiff, Nat.reduceAdd, Nat.reduceMul, Nat.reduceSub, i_lit, eq_self, and_true, true_and, and_self, not_true_eq_false, not_false_eq_true, or_true, true_or, or_false, false_or, false_and, and_false, reduceCtorEq, Nat.add_left_cancel_iff, Nat.add_zero, Nat.zero_add, md_all h, md_all h1, e26, e26']; done))
            | unfold fX5_byteOf_402
            | unfold fX5_byteOf_403
            | fail)
          first | with_reducible rfl | simp (disch := omega) only [b_all, sV_all, ↓reduceIte, Nat.reduceEqDiff, Nat.reduceLT, Nat.reduceLeDiff, Nat.reduceAdd, Nat.reduceMul, Nat.reduceSub, i_lit, eq_self, and_true, true_and, and_self, not_true_eq_false, not_false_eq_true, or_true, true_or, or_false, false_or, false_and, and_false, reduceCtorEq, Nat.add_left_cancel_iff, Nat.add_zero, Nat.zero_add, md_all h, md_all h1, e26, e26']
        · have ef : fnd (L ++ two (i32 (chk L))) w = gt (L ++ two (i32 (chk L))) w := by unfold fnd; rw [if_pos (by omega)]
          have e21 := g1.2.2.1 w (by omega)
          rw [ef]
          repeat (first
            | (with_reducible refine e_l1 ?_)
            | ((with_reducible refine e_k ?_ (mkM h) ?_); focus rfl)
            | ((with_reducible refine e_p ?_ (mp1 h) ?_); focus rfl)
            | ((with_reducible refine e_p ?_ (mp2 h) ?_); focus rfl)
            | ((with_reducible refine e_p ?_ (mp3 h) ?_); focus rfl)
            | ((with_reducible refine e_p ?_ (mp4 h) ?_); focus rfl)
            | ((with_reducible refine e_p ?_ (mp5 h) ?_); focus rfl)
            | ((with_reducible refine e_p ?_ (mp6 h) ?_); focus rfl)
            | ((with_reducible refine e_p ?_ (mp7 h) ?_); focus rfl)
            | ((with_reducible refine e_p ?_ (mp8 h) ?_); focus rfl)
            | ((with_reducible refine e_p ?_ (mp9 h) ?_); focus rfl)
            | ((with_reducible refine e_p ?_ (mp10 h) ?_); focus rfl)
            | ((with_reducible refine e_p ?_ (mp11 h) ?_); focus rfl)
            | ((with_reducible refine e_p ?_ (mp12 h) ?_); focus rfl)
            | ((with_reducible refine e_p ?_ (mp13 h) ?_); focus rfl)
            | ((with_reducible refine e_p ?_ (mp14 h) ?_); focus rfl)
            | ((with_reducible refine e_p ?_ (mp15 h) ?_); focus rfl)
            | ((with_reducible refine e_p ?_ (mp16 h) ?_); focus rfl)
            | ((with_reducible refine e_p ?_ (mp17 h) ?_); focus rfl)
            | ((with_reducible refine e_p ?_ (mp18 h) ?_); focus rfl)
            | ((with_reducible refine e_p ?_ (mp19 h) ?_); focus rfl)
            | ((with_reducible refine e_p ?_ (mp20 h) ?_); focus rfl)
            | ((with_reducible refine e_p ?_ (mp21 h) ?_); focus rfl)
            | ((with_reducible refine e_k ?_ (mkM h1) ?_); focus rfl)
            | ((with_reducible refine e_p ?_ (mp1 h1) ?_); focus rfl)
            | ((with_reducible refine e_p ?_ (mp2 h1) ?_); focus rfl)
            | ((with_reducible refine e_p ?_ (mp3 h1) ?_); focus rfl)
            | ((with_reducible refine e_p ?_ (mp4 h1) ?_); focus rfl)
            | ((with_reducible refine e_p ?_ (mp5 h1) ?_); focus rfl)
            | ((with_reducible refine e_p ?_ (mp6 h1) ?_); focus rfl)
            | ((with_reducible refine e_p ?_ (mp7 h1) ?_); focus rfl)
            | ((with_reducible refine e_p ?_ (mp8 h1) ?_); focus rfl)
            | ((with_reducible refine e_p ?_ (mp9 h1) ?_); focus rfl)
            | ((with_reducible refine e_p ?_ (mp10 h1) ?_); focus rfl)
            | ((with_reducible refine e_p ?_ (mp11 h1) ?_); focus rfl)
            | ((with_reducible refine e_p ?_ (mp12 h1) ?_); focus rfl)
            | ((with_reducible refine e_p ?_ (mp13 h1) ?_); focus rfl)
            | ((with_reducible refine e_p ?_ (mp14 h1) ?_); focus rfl)
            | ((with_reducible refine e_p ?_ (mp15 h1) ?_); focus rfl)
            | ((with_reducible refine e_p ?_ (mp16 h1) ?_); focus rfl)
            | ((with_reducible refine e_p ?_ (mp17 h1) ?_); focus rfl)
            | ((with_reducible refine e_p ?_ (mp18 h1) ?_); focus rfl)
            | ((with_reducible refine e_p ?_ (mp19 h1) ?_); focus rfl)
            | ((with_reducible refine e_p ?_ (mp20 h1) ?_); focus rfl)
            | ((with_reducible refine e_p ?_ (mp21 h1) ?_); focus rfl)
            | ((with_reducible refine e_o2 ?_ e1' ?_); focus (first | with_reducible rfl | (simp (disch := omega) only [b_all, sV_all, ↓reduceIte, Nat.reduceEqDiff, Nat.reduceLT, Nat.reduceLeDiff, Nat.reduceAdd, Nat.reduceMul, Nat.reduceSub, i_lit, eq_self, and_true, true_and, and_self, not_true_eq_false, not_false_eq_true, or_true, true_or, or_false, false_or, false_and, and_false, reduceCtorEq, Nat.add_left_cancel_iff, Nat.add_zero, Nat.zero_add, md_all h, md_all h1, e26, e26', e21]; done)))
            | ((with_reducible refine e_ip ?_ ?_); focus (simp (disch := omega) only [b_all, sV_all, ↓reduceIte, Nat.reduceEqDiff, Nat.reduceLT, Nat.reduceLeDiff, Nat.reduceAdd, Nat.reduceMul, Nat.reduceSub, i_lit, eq_self, and_true, true_and, and_self, not_true_eq_false, not_false_eq_true, or_true, true_or, or_false, false_or, false_and, and_false, reduceCtorEq, Nat.add_left_cancel_iff, Nat.add_zero, Nat.zero_add, md_all h, md_all h1, e26, e26', e21]; done))
            | ((with_reducible refine e_in ?_ ?_); focus (simp (disch := omega) only [b_all, sV_all, ↓reduceIte, Nat.reduceEqDiff, Nat.reduceLT, Nat.reduceLeDiff, Nat.reduceAdd, Nat.reduceMul, Nat.reduceSub, i_lit, eq_self, and_true, true_and, and_self, not_true_eq_false, not_false_eq_true, or_true, true_or, or_false, false_or, false_and, and_false, reduceCtorEq, Nat.add_left_cancel_iff, Nat.add_zero, Nat.zero_add, md_all h, md_all h1, e26, e26', e21]; done))
            | unfold fX5_byteOf_402
            | unfold fX5_byteOf_403
            | fail)
          first | with_reducible rfl | simp (disch := omega) only [b_all, sV_all, ↓reduceIte, Nat.reduceEqDiff, Nat.reduceLT, Nat.reduceLeDiff, Nat.reduceAdd, Nat.reduceMul, Nat.reduceSub, i_lit, eq_self, and_true, true_and, and_self, not_true_eq_false, not_false_eq_true, or_true, true_or, or_false, false_or, false_and, and_false, reduceCtorEq, Nat.add_left_cancel_iff, Nat.add_zero, Nat.zero_add, md_all h, md_all h1, e26, e26', e21]
    · have e21 := g.2.2.1 i (by omega)
      obtain ⟨W2, M2, e2, h2, g2⟩ := ih (i + 1) (by omega) (by omega)
      refine ⟨W2, M2, ?_, h2, g2⟩
      have hc := chkG_lt by' i
      have em : i32 (chkG (gt L) (i + 1)) = (((i32 (chkG (gt L) i) <<< (i32 3 &&& i32 31)) &&& i32 65535) ||| (i32 (chkG (gt L) i) >>> (i32 13 &&& i32 31))) ^^^ i32 (gt L i) := by
        rw [i_shl _ (by omega), i_shr (by omega) (by omega), i_and, i_or, i_xor, ck_m _ hc]; rfl
      rw [← e2, em, fX5_byteOf_337]
      repeat (first
        | (with_reducible refine e_l1 ?_)
        | ((with_reducible refine e_k ?_ (mkM h) ?_); focus rfl)
        | ((with_reducible refine e_p ?_ (mp1 h) ?_); focus rfl)
        | ((with_reducible refine e_p ?_ (mp2 h) ?_); focus rfl)
        | ((with_reducible refine e_p ?_ (mp3 h) ?_); focus rfl)
        | ((with_reducible refine e_p ?_ (mp4 h) ?_); focus rfl)
        | ((with_reducible refine e_p ?_ (mp5 h) ?_); focus rfl)
        | ((with_reducible refine e_p ?_ (mp6 h) ?_); focus rfl)
        | ((with_reducible refine e_p ?_ (mp7 h) ?_); focus rfl)
        | ((with_reducible refine e_p ?_ (mp8 h) ?_); focus rfl)
        | ((with_reducible refine e_p ?_ (mp9 h) ?_); focus rfl)
        | ((with_reducible refine e_p ?_ (mp10 h) ?_); focus rfl)
        | ((with_reducible refine e_p ?_ (mp11 h) ?_); focus rfl)
        | ((with_reducible refine e_p ?_ (mp12 h) ?_); focus rfl)
        | ((with_reducible refine e_p ?_ (mp13 h) ?_); focus rfl)
        | ((with_reducible refine e_p ?_ (mp14 h) ?_); focus rfl)
        | ((with_reducible refine e_p ?_ (mp15 h) ?_); focus rfl)
        | ((with_reducible refine e_p ?_ (mp16 h) ?_); focus rfl)
        | ((with_reducible refine e_p ?_ (mp17 h) ?_); focus rfl)
        | ((with_reducible refine e_p ?_ (mp18 h) ?_); focus rfl)
        | ((with_reducible refine e_p ?_ (mp19 h) ?_); focus rfl)
        | ((with_reducible refine e_p ?_ (mp20 h) ?_); focus rfl)
        | ((with_reducible refine e_p ?_ (mp21 h) ?_); focus rfl)
        | ((with_reducible refine e_ip ?_ ?_); focus (simp (disch := omega) only [b_all, sV_all, ↓reduceIte, Nat.reduceEqDiff, Nat.reduceLT, Nat.reduceLeDiff, Nat.reduceAdd, Nat.reduceMul, Nat.reduceSub, i_lit, eq_self, and_true, true_and, and_self, not_true_eq_false, not_false_eq_true, or_true, true_or, or_false, false_or, false_and, and_false, reduceCtorEq, Nat.add_left_cancel_iff, Nat.add_zero, Nat.zero_add, md_all h, e26, e21]; done))
        | ((with_reducible refine e_in ?_ ?_); focus (simp (disch := omega) only [b_all, sV_all, ↓reduceIte, Nat.reduceEqDiff, Nat.reduceLT, Nat.reduceLeDiff, Nat.reduceAdd, Nat.reduceMul, Nat.reduceSub, i_lit, eq_self, and_true, true_and, and_self, not_true_eq_false, not_false_eq_true, or_true, true_or, or_false, false_or, false_and, and_false, reduceCtorEq, Nat.add_left_cancel_iff, Nat.add_zero, Nat.zero_add, md_all h, e26, e21]; done))
        | fail)
      first | with_reducible rfl | simp (disch := omega) only [b_all, sV_all, ↓reduceIte, Nat.reduceEqDiff, Nat.reduceLT, Nat.reduceLeDiff, Nat.reduceAdd, Nat.reduceMul, Nat.reduceSub, i_lit, eq_self, and_true, true_and, and_self, not_true_eq_false, not_false_eq_true, or_true, true_or, or_false, false_or, false_and, and_false, reduceCtorEq, Nat.add_left_cancel_iff, Nat.add_zero, Nat.zero_add, md_all h, e26, e21]
end
