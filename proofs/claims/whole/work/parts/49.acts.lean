/-! What the class does -/
theorem sA_b (B : Nat) {s : Nat} (hs : s < 5) : B + 2 ≤ sA B s ∧ sA B s + 4 ≤ B + 22 := by unfold sA; omega
section
variable {x : Cx} {k B : Nat} {C W W0 : Ab} {M : Mm}
/-- a transaction's cells, by its address -/
theorem tk {C' : Ab} {M' : Mm} (h : St x B C' W0 M') {t a : Nat} (ht : t < C' 60 0) (ha : C' 70 t = a) : mK M' a = 4 ∧ (∀ q, mV M' a q = i32 (C' (100 + 5 * t) q)) ∧ (mP M' a 4 = some (a + 1) ∧ mP M' a 6 = some (a + 2) ∧ mP M' a 8 = some (a + 3) ∧ mP M' a 9 = some (a + 4)) ∧ ∀ q v, St x B (U C' (100 + 5 * t) q v) W0 (sV M' a q (i32 v)) := by
  subst ha
  exact ⟨kT h ht, fun q => cvT h ht q, ⟨pT4 h ht, pT6 h ht, pT8 h ht, pT9 h ht⟩, fun q v => suT0 h ht q v⟩
theorem Rl.s4 (r : Rl C W) {t : Nat} (ht : t < W 0 5) : W 4 t < 5 := by
  have := (cbT r.q (r.c ht)).1.2.1; rw [(r.t ht).1.2.1] at this; exact this
theorem Rl.v1 (r : Rl C W) {s j : Nat} (hs : s < 5) (hj : j < 5) : W 1 (5 * s + j) < 1073741824 := by
  rw [← (r.p hs).2.1 j hj]; exact cbS1 r.q hs j
theorem Rl.cn (r : Rl C W) {t s : Nat} (ht : t < W 0 5) (hs : s < 5) (h8 : W 8 (5 * t + s) = 0) : C (2 + 4 * s) 4 + 1 ≤ W 0 5 := by
  rw [(r.a hs).cnt]
  have e := ct_del (p := fun u => 0 < W 8 (5 * u + s) ∨ u = t) (q := fun u => 0 < W 8 (5 * u + s)) (f := t) (Or.inr rfl) (by omega) (W 0 5) ht (fun i _ hne => ⟨fun z => by rcases z with z | z; exact z; exact absurd z hne, Or.inl⟩)
  have := ct_le (fun u => 0 < W 8 (5 * u + s) ∨ u = t) (W 0 5)
  omega
theorem c_apply (hk : 5000 ≤ k) (h : St x B C W0 M) (r : Rl C W) {t s : Nat} (ht : t < W 0 5) (hs : s < 5) (h8 : W 8 (5 * t + s) = 0) (hv : W 1 (5 * s + W 4 t) + 1 < 1073741824) : ∃ C' M', fX4_applyAt x k B (C 70 t) (i32 s) M = some ((), M') ∧ St x B C' W0 M' ∧ Rl C' (wApp W t s) ∧ Kp C C' := by
  have hb := r.b
  have ht' := r.c ht
  have hcnt := r.cn ht hs h8
  have e0 := (r.t ht).1.1
  have e1 := (r.t ht).1.2.1
  have h4 := r.s4 ht
  have hT := (st_T5 h ht').1.1
  have hsA := sA_b B hs
  have h1 := suS3 h hs (C (2 + 4 * s) 4) t
  have h2 := suS0 h1 hs 4 (C (2 + 4 * s) 4 + 1)
  have h3 := suS1 h2 hs (W 4 t) (C (3 + 4 * s) (W 4 t) + 1)
  obtain ⟨C4, M4, e4, h4', f1, f2⟩ := c_unl (k := k) hk h3 (t := t) (by omega) hs (fun o => by simp (disch := omega) only [U_ne]; exact cbS2 r.q hs o)
  simp (disch := omega) only [U_ne] at f2
  have et : fX2_take x k (sA B s) (C 70 t) M = some ((), M4) := by
    unfold fX2_take
    repeat (first
      | (with_reducible refine e_l1 ?_)
      | ((with_reducible refine e_k ?_ (kB h) ?_); focus rfl)
      | ((with_reducible refine e_p ?_ (p_s h) ?_); focus rfl)
      | ((with_reducible refine e_p ?_ (p_t h) ?_); focus rfl)
      | ((with_reducible refine e_p ?_ (p_l h) ?_); focus rfl)
      | ((with_reducible refine e_p ?_ (p_f h) ?_); focus rfl)
      | ((with_reducible refine e_o2 ?_ e4 ?_); focus (first | with_reducible rfl | (simp (disch := omega) only [b_all, sV_all, ↓reduceIte, Nat.reduceEqDiff, Nat.reduceLT, Nat.reduceLeDiff, Nat.reduceAdd, Nat.reduceMul, Nat.reduceSub, i_lit, eq_self, and_true, true_and, and_self, not_true_eq_false, not_false_eq_true, or_true, true_or, or_false, false_or, false_and, and_false, reduceCtorEq, Nat.add_left_cancel_iff, Nat.add_zero, Nat.zero_add, cd_all h, e0, e1]; done)))
      | ((with_reducible refine e_T ?_ e4 ?_); focus (first | with_reducible rfl | (simp (disch := omega) only [b_all, sV_all, ↓reduceIte, Nat.reduceEqDiff, Nat.reduceLT, Nat.reduceLeDiff, Nat.reduceAdd, Nat.reduceMul, Nat.reduceSub, i_lit, eq_self, and_true, true_and, and_self, not_true_eq_false, not_false_eq_true, or_true, true_or, or_false, false_or, false_and, and_false, reduceCtorEq, Nat.add_left_cancel_iff, Nat.add_zero, Nat.zero_add, cd_all h, e0, e1]; done)))
      | ((with_reducible refine e_X ?_ e4 ?_); focus (first | with_reducible rfl | (simp (disch := omega) only [b_all, sV_all, ↓reduceIte, Nat.reduceEqDiff, Nat.reduceLT, Nat.reduceLeDiff, Nat.reduceAdd, Nat.reduceMul, Nat.reduceSub, i_lit, eq_self, and_true, true_and, and_self, not_true_eq_false, not_false_eq_true, or_true, true_or, or_false, false_or, false_and, and_false, reduceCtorEq, Nat.add_left_cancel_iff, Nat.add_zero, Nat.zero_add, cd_all h, e0, e1]; done)))
      | ((with_reducible apply e_o1); focus (simp (disch := omega) only [b_all, sV_all, ↓reduceIte, Nat.reduceEqDiff, Nat.reduceLT, Nat.reduceLeDiff, Nat.reduceAdd, Nat.reduceMul, Nat.reduceSub, i_lit, eq_self, and_true, true_and, and_self, not_true_eq_false, not_false_eq_true, or_true, true_or, or_false, false_or, false_and, and_false, reduceCtorEq, Nat.add_left_cancel_iff, Nat.add_zero, Nat.zero_add, cd_all h, e0, e1]; first | done | rfl))
      | ((with_reducible refine e_ip ?_ ?_); focus (simp (disch := omega) only [b_all, sV_all, ↓reduceIte, Nat.reduceEqDiff, Nat.reduceLT, Nat.reduceLeDiff, Nat.reduceAdd, Nat.reduceMul, Nat.reduceSub, i_lit, eq_self, and_true, true_and, and_self, not_true_eq_false, not_false_eq_true, or_true, true_or, or_false, false_or, false_and, and_false, reduceCtorEq, Nat.add_left_cancel_iff, Nat.add_zero, Nat.zero_add, cd_all h, e0, e1]; done))
      | ((with_reducible refine e_in ?_ ?_); focus (simp (disch := omega) only [b_all, sV_all, ↓reduceIte, Nat.reduceEqDiff, Nat.reduceLT, Nat.reduceLeDiff, Nat.reduceAdd, Nat.reduceMul, Nat.reduceSub, i_lit, eq_self, and_true, true_and, and_self, not_true_eq_false, not_false_eq_true, or_true, true_or, or_false, false_or, false_and, and_false, reduceCtorEq, Nat.add_left_cancel_iff, Nat.add_zero, Nat.zero_add, cd_all h, e0, e1]; done))
      | fail)
    first | with_reducible rfl | simp (disch := omega) only [b_all, sV_all, ↓reduceIte, Nat.reduceEqDiff, Nat.reduceLT, Nat.reduceLeDiff, Nat.reduceAdd, Nat.reduceMul, Nat.reduceSub, i_lit, eq_self, and_true, true_and, and_self, not_true_eq_false, not_false_eq_true, or_true, true_or, or_false, false_or, false_and, and_false, reduceCtorEq, Nat.add_left_cancel_iff, Nat.add_zero, Nat.zero_add, cd_all h, e0, e1]
  have f70 : ∀ i, C4 70 i = C 70 i := fun i => by rw [f1 _ _ (by omega)]; simp (disch := omega) only [U_ne]
  have f60 : ∀ i, C4 60 i = C 60 i := fun i => by rw [f1 _ _ (by omega)]; simp (disch := omega) only [U_ne]
  have fT : ∀ q, C4 (100 + 5 * t) q = C (100 + 5 * t) q := fun q => by rw [f1 _ _ (by omega)]; simp (disch := omega) only [U_ne]
  obtain ⟨k4, v4, -, s4⟩ := tk h4' (t := t) (a := C 70 t) (by rw [f60]; exact ht') (f70 t)
  have h5 := s4 12 (C (100 + 5 * t) 12 ||| 1 <<< s)
  obtain ⟨k5, v5, -, s5⟩ := tk h5 (t := t) (a := C 70 t) (by rw [U_r _ (by omega), f60]; exact ht') (by rw [U_r _ (by omega)]; exact f70 t)
  have h6 := s5 13 (C (100 + 5 * t) 13 &&& (1 <<< s ^^^ 4294967295))
  have eb1 := c_bit (x := x) (k := k) (M := M4) (a := s) (by omega)
  have eb2 := c_bit (x := x) (k := k) (M := sV M4 (C 70 t) 12 (i32 (C (100 + 5 * t) 12 ||| 1 <<< s))) (a := s) (by omega)
  refine ⟨_, _, ?_, h6, ?_, Kp.low (fun a j q1 q2 => ?_)⟩
  · unfold fX4_applyAt
    repeat (first
      | (with_reducible refine e_l1 ?_)
      | ((with_reducible refine e_k ?_ (kB h) ?_); focus rfl)
      | ((with_reducible refine e_p ?_ (p_s h) ?_); focus rfl)
      | ((with_reducible refine e_p ?_ (p_t h) ?_); focus rfl)
      | ((with_reducible refine e_p ?_ (p_l h) ?_); focus rfl)
      | ((with_reducible refine e_p ?_ (p_f h) ?_); focus rfl)
      | ((with_reducible refine e_o2 ?_ et ?_); focus (first | with_reducible rfl | (simp (disch := omega) only [b_all, sV_all, ↓reduceIte, Nat.reduceEqDiff, Nat.reduceLT, Nat.reduceLeDiff, Nat.reduceAdd, Nat.reduceMul, Nat.reduceSub, i_lit, eq_self, and_true, true_and, and_self, not_true_eq_false, not_false_eq_true, or_true, true_or, or_false, false_or, false_and, and_false, reduceCtorEq, Nat.add_left_cancel_iff, Nat.add_zero, Nat.zero_add, cd_all h, k4, v4, fT, i_or, i_and, i_xor]; done)))
      | ((with_reducible refine e_o2 ?_ eb1 ?_); focus (first | with_reducible rfl | (simp (disch := omega) only [b_all, sV_all, ↓reduceIte, Nat.reduceEqDiff, Nat.reduceLT, Nat.reduceLeDiff, Nat.reduceAdd, Nat.reduceMul, Nat.reduceSub, i_lit, eq_self, and_true, true_and, and_self, not_true_eq_false, not_false_eq_true, or_true, true_or, or_false, false_or, false_and, and_false, reduceCtorEq, Nat.add_left_cancel_iff, Nat.add_zero, Nat.zero_add, cd_all h, k4, v4, fT, i_or, i_and, i_xor]; done)))
      | ((with_reducible refine e_o2 ?_ eb2 ?_); focus (first | with_reducible rfl | (simp (disch := omega) only [b_all, sV_all, ↓reduceIte, Nat.reduceEqDiff, Nat.reduceLT, Nat.reduceLeDiff, Nat.reduceAdd, Nat.reduceMul, Nat.reduceSub, i_lit, eq_self, and_true, true_and, and_self, not_true_eq_false, not_false_eq_true, or_true, true_or, or_false, false_or, false_and, and_false, reduceCtorEq, Nat.add_left_cancel_iff, Nat.add_zero, Nat.zero_add, cd_all h, k4, v4, fT, i_or, i_and, i_xor]; done)))
      | ((with_reducible refine e_T ?_ et ?_); focus (first | with_reducible rfl | (simp (disch := omega) only [b_all, sV_all, ↓reduceIte, Nat.reduceEqDiff, Nat.reduceLT, Nat.reduceLeDiff, Nat.reduceAdd, Nat.reduceMul, Nat.reduceSub, i_lit, eq_self, and_true, true_and, and_self, not_true_eq_false, not_false_eq_true, or_true, true_or, or_false, false_or, false_and, and_false, reduceCtorEq, Nat.add_left_cancel_iff, Nat.add_zero, Nat.zero_add, cd_all h, k4, v4, fT, i_or, i_and, i_xor]; done)))
      | ((with_reducible refine e_X ?_ et ?_); focus (first | with_reducible rfl | (simp (disch := omega) only [b_all, sV_all, ↓reduceIte, Nat.reduceEqDiff, Nat.reduceLT, Nat.reduceLeDiff, Nat.reduceAdd, Nat.reduceMul, Nat.reduceSub, i_lit, eq_self, and_true, true_and, and_self, not_true_eq_false, not_false_eq_true, or_true, true_or, or_false, false_or, false_and, and_false, reduceCtorEq, Nat.add_left_cancel_iff, Nat.add_zero, Nat.zero_add, cd_all h, k4, v4, fT, i_or, i_and, i_xor]; done)))
      | ((with_reducible refine e_T ?_ eb1 ?_); focus (first | with_reducible rfl | (simp (disch := omega) only [b_all, sV_all, ↓reduceIte, Nat.reduceEqDiff, Nat.reduceLT, Nat.reduceLeDiff, Nat.reduceAdd, Nat.reduceMul, Nat.reduceSub, i_lit, eq_self, and_true, true_and, and_self, not_true_eq_false, not_false_eq_true, or_true, true_or, or_false, false_or, false_and, and_false, reduceCtorEq, Nat.add_left_cancel_iff, Nat.add_zero, Nat.zero_add, cd_all h, k4, v4, fT, i_or, i_and, i_xor]; done)))
      | ((with_reducible refine e_X ?_ eb1 ?_); focus (first | with_reducible rfl | (simp (disch := omega) only [b_all, sV_all, ↓reduceIte, Nat.reduceEqDiff, Nat.reduceLT, Nat.reduceLeDiff, Nat.reduceAdd, Nat.reduceMul, Nat.reduceSub, i_lit, eq_self, and_true, true_and, and_self, not_true_eq_false, not_false_eq_true, or_true, true_or, or_false, false_or, false_and, and_false, reduceCtorEq, Nat.add_left_cancel_iff, Nat.add_zero, Nat.zero_add, cd_all h, k4, v4, fT, i_or, i_and, i_xor]; done)))
      | ((with_reducible refine e_T ?_ eb2 ?_); focus (first | with_reducible rfl | (simp (disch := omega) only [b_all, sV_all, ↓reduceIte, Nat.reduceEqDiff, Nat.reduceLT, Nat.reduceLeDiff, Nat.reduceAdd, Nat.reduceMul, Nat.reduceSub, i_lit, eq_self, and_true, true_and, and_self, not_true_eq_false, not_false_eq_true, or_true, true_or, or_false, false_or, false_and, and_false, reduceCtorEq, Nat.add_left_cancel_iff, Nat.add_zero, Nat.zero_add, cd_all h, k4, v4, fT, i_or, i_and, i_xor]; done)))
      | ((with_reducible refine e_X ?_ eb2 ?_); focus (first | with_reducible rfl | (simp (disch := omega) only [b_all, sV_all, ↓reduceIte, Nat.reduceEqDiff, Nat.reduceLT, Nat.reduceLeDiff, Nat.reduceAdd, Nat.reduceMul, Nat.reduceSub, i_lit, eq_self, and_true, true_and, and_self, not_true_eq_false, not_false_eq_true, or_true, true_or, or_false, false_or, false_and, and_false, reduceCtorEq, Nat.add_left_cancel_iff, Nat.add_zero, Nat.zero_add, cd_all h, k4, v4, fT, i_or, i_and, i_xor]; done)))
      | ((with_reducible apply e_o1); focus (simp (disch := omega) only [b_all, sV_all, ↓reduceIte, Nat.reduceEqDiff, Nat.reduceLT, Nat.reduceLeDiff, Nat.reduceAdd, Nat.reduceMul, Nat.reduceSub, i_lit, eq_self, and_true, true_and, and_self, not_true_eq_false, not_false_eq_true, or_true, true_or, or_false, false_or, false_and, and_false, reduceCtorEq, Nat.add_left_cancel_iff, Nat.add_zero, Nat.zero_add, cd_all h, k4, v4, fT, i_or, i_and, i_xor]; first | done | rfl))
      | ((with_reducible refine e_ip ?_ ?_); focus (simp (disch := omega) only [b_all, sV_all, ↓reduceIte, Nat.reduceEqDiff, Nat.reduceLT, Nat.reduceLeDiff, Nat.reduceAdd, Nat.reduceMul, Nat.reduceSub, i_lit, eq_self, and_true, true_and, and_self, not_true_eq_false, not_false_eq_true, or_true, true_or, or_false, false_or, false_and, and_false, reduceCtorEq, Nat.add_left_cancel_iff, Nat.add_zero, Nat.zero_add, cd_all h, k4, v4, fT, i_or, i_and, i_xor]; done))
      | ((with_reducible refine e_in ?_ ?_); focus (simp (disch := omega) only [b_all, sV_all, ↓reduceIte, Nat.reduceEqDiff, Nat.reduceLT, Nat.reduceLeDiff, Nat.reduceAdd, Nat.reduceMul, Nat.reduceSub, i_lit, eq_self, and_true, true_and, and_self, not_true_eq_false, not_false_eq_true, or_true, true_or, or_false, false_or, false_and, and_false, reduceCtorEq, Nat.add_left_cancel_iff, Nat.add_zero, Nat.zero_add, cd_all h, k4, v4, fT, i_or, i_and, i_xor]; done))
      | fail)
    first | with_reducible rfl | simp (disch := omega) only [b_all, sV_all, ↓reduceIte, Nat.reduceEqDiff, Nat.reduceLT, Nat.reduceLeDiff, Nat.reduceAdd, Nat.reduceMul, Nat.reduceSub, i_lit, eq_self, and_true, true_and, and_self, not_true_eq_false, not_false_eq_true, or_true, true_or, or_false, false_or, false_and, and_false, reduceCtorEq, Nat.add_left_cancel_iff, Nat.add_zero, Nat.zero_add, cd_all h, k4, v4, fT, i_or, i_and, i_xor]
  · refine rl_app r ht hs h8 (by rw [(r.p hs).2.1 _ h4]; exact hv) (fun i => ?_) ?_ (fun j hj => ?_) (fun j => ?_) (fun o => ?_) ?_ ?_ (fun j hj1 hj2 => ?_) (fun a j n1 n2 n3 n4 n5 => ?_)
    · simp (disch := omega) only [U_ne]
      rw [f1 _ _ (by omega)]
      simp (disch := omega) only [U_ne]
      by_cases z : i = C (2 + 4 * s) 4
      · rw [if_pos z, z, U_s]
      · rw [if_neg z, U_k _ _ _ z]
    · simp (disch := omega) only [U_ne]
      rw [f1 _ _ (by omega)]
      simp (disch := omega) only [U_ne, U_s]
    · simp (disch := omega) only [U_ne]
      rw [f1 _ _ (by omega)]
      simp (disch := omega) only [U_ne, U_s]
    · simp (disch := omega) only [U_ne]
      rw [f1 _ _ (by omega)]
      by_cases z : j = W 4 t
      · rw [if_pos z, z, U_s]
      · rw [if_neg z]; simp (disch := omega) only [U_ne]
    · simp (disch := omega) only [U_ne]
      exact f2 o
    · simp (disch := omega) only [U_ne, U_s]
    · rw [U_s]
    · simp (disch := omega) only [U_ne]
      exact fT j
    · simp (disch := omega) only [U_ne]
      rw [f1 _ _ n3]
      simp (disch := omega) only [U_ne]
  · simp (disch := omega) only [U_ne]
    rw [f1 _ _ (by omega)]
    simp (disch := omega) only [U_ne]
theorem c_tfree (hk : 5000 ≤ k) (h : St x B C W0 M) (r : Rl C W) {t s : Nat} (ht : t < W 0 5) (hs : s < 5) : ∃ C' M', fX4_takeFree x k B (C 70 t) (i32 s) M = some ((), M') ∧ St x B C' W0 M' ∧ Rl C' (unl (U W 10 (5 * t + s) 1) t s 20) ∧ Kp C C' := by
  have hb := r.b
  have ht' := r.c ht
  have e0 := (r.t ht).1.1
  obtain ⟨C4, M4, e4, h4', f1, f2⟩ := c_unl (k := k) hk h (t := t) (by omega) hs (fun o => cbS2 r.q hs o)
  have f70 : ∀ i, C4 70 i = C 70 i := fun i => f1 _ _ (by omega)
  have f60 : ∀ i, C4 60 i = C 60 i := fun i => f1 _ _ (by omega)
  have fT : ∀ q, C4 (100 + 5 * t) q = C (100 + 5 * t) q := fun q => f1 _ _ (by omega)
  obtain ⟨k4, v4, -, s4⟩ := tk h4' (t := t) (a := C 70 t) (by rw [f60]; exact ht') (f70 t)
  have h5 := s4 14 (C (100 + 5 * t) 14 ||| 1 <<< s)
  have eb1 := c_bit (x := x) (k := k) (M := M4) (a := s) (by omega)
  refine ⟨_, _, ?_, h5, ?_, Kp.low (fun a j q1 q2 => ?_)⟩
  · unfold fX4_takeFree
    repeat (first
      | (with_reducible refine e_l1 ?_)
      | ((with_reducible refine e_k ?_ (kB h) ?_); focus rfl)
      | ((with_reducible refine e_p ?_ (p_s h) ?_); focus rfl)
      | ((with_reducible refine e_p ?_ (p_t h) ?_); focus rfl)
      | ((with_reducible refine e_p ?_ (p_l h) ?_); focus rfl)
      | ((with_reducible refine e_p ?_ (p_f h) ?_); focus rfl)
      | ((with_reducible refine e_o2 ?_ e4 ?_); focus (first | with_reducible rfl | (simp (disch := omega) only [b_all, sV_all, ↓reduceIte, Nat.reduceEqDiff, Nat.reduceLT, Nat.reduceLeDiff, Nat.reduceAdd, Nat.reduceMul, Nat.reduceSub, i_lit, eq_self, and_true, true_and, and_self, not_true_eq_false, not_false_eq_true, or_true, true_or, or_false, false_or, false_and, and_false, reduceCtorEq, Nat.add_left_cancel_iff, Nat.add_zero, Nat.zero_add, cd_all h, k4, v4, fT, i_or, e0]; done)))
      | ((with_reducible refine e_o2 ?_ eb1 ?_); focus (first | with_reducible rfl | (simp (disch := omega) only [b_all, sV_all, ↓reduceIte, Nat.reduceEqDiff, Nat.reduceLT, Nat.reduceLeDiff, Nat.reduceAdd, Nat.reduceMul, Nat.reduceSub, i_lit, eq_self, and_true, true_and, and_self, not_true_eq_false, not_false_eq_true, or_true, true_or, or_false, false_or, false_and, and_false, reduceCtorEq, Nat.add_left_cancel_iff, Nat.add_zero, Nat.zero_add, cd_all h, k4, v4, fT, i_or, e0]; done)))
      | ((with_reducible refine e_T ?_ e4 ?_); focus (first | with_reducible rfl | (simp (disch := omega) only [b_all, sV_all, ↓reduceIte, Nat.reduceEqDiff, Nat.reduceLT, Nat.reduceLeDiff, Nat.reduceAdd, Nat.reduceMul, Nat.reduceSub, i_lit, eq_self, and_true, true_and, and_self, not_true_eq_false, not_false_eq_true, or_true, true_or, or_false, false_or, false_and, and_false, reduceCtorEq, Nat.add_left_cancel_iff, Nat.add_zero, Nat.zero_add, cd_all h, k4, v4, fT, i_or, e0]; done)))
      | ((with_reducible refine e_X ?_ e4 ?_); focus (first | with_reducible rfl | (simp (disch := omega) only [b_all, sV_all, ↓reduceIte, Nat.reduceEqDiff, Nat.reduceLT, Nat.reduceLeDiff, Nat.reduceAdd, Nat.reduceMul, Nat.reduceSub, i_lit, eq_self, and_true, true_and, and_self, not_true_eq_false, not_false_eq_true, or_true, true_or, or_false, false_or, false_and, and_false, reduceCtorEq, Nat.add_left_cancel_iff, Nat.add_zero, Nat.zero_add, cd_all h, k4, v4, fT, i_or, e0]; done)))
      | ((with_reducible refine e_T ?_ eb1 ?_); focus (first | with_reducible rfl | (simp (disch := omega) only [b_all, sV_all, ↓reduceIte, Nat.reduceEqDiff, Nat.reduceLT, Nat.reduceLeDiff, Nat.reduceAdd, Nat.reduceMul, Nat.reduceSub, i_lit, eq_self, and_true, true_and, and_self, not_true_eq_false, not_false_eq_true, or_true, true_or, or_false, false_or, false_and, and_false, reduceCtorEq, Nat.add_left_cancel_iff, Nat.add_zero, Nat.zero_add, cd_all h, k4, v4, fT, i_or, e0]; done)))
      | ((with_reducible refine e_X ?_ eb1 ?_); focus (first | with_reducible rfl | (simp (disch := omega) only [b_all, sV_all, ↓reduceIte, Nat.reduceEqDiff, Nat.reduceLT, Nat.reduceLeDiff, Nat.reduceAdd, Nat.reduceMul, Nat.reduceSub, i_lit, eq_self, and_true, true_and, and_self, not_true_eq_false, not_false_eq_true, or_true, true_or, or_false, false_or, false_and, and_false, reduceCtorEq, Nat.add_left_cancel_iff, Nat.add_zero, Nat.zero_add, cd_all h, k4, v4, fT, i_or, e0]; done)))
      | ((with_reducible apply e_o1); focus (simp (disch := omega) only [b_all, sV_all, ↓reduceIte, Nat.reduceEqDiff, Nat.reduceLT, Nat.reduceLeDiff, Nat.reduceAdd, Nat.reduceMul, Nat.reduceSub, i_lit, eq_self, and_true, true_and, and_self, not_true_eq_false, not_false_eq_true, or_true, true_or, or_false, false_or, false_and, and_false, reduceCtorEq, Nat.add_left_cancel_iff, Nat.add_zero, Nat.zero_add, cd_all h, k4, v4, fT, i_or, e0]; first | done | rfl))
      | ((with_reducible refine e_ip ?_ ?_); focus (simp (disch := omega) only [b_all, sV_all, ↓reduceIte, Nat.reduceEqDiff, Nat.reduceLT, Nat.reduceLeDiff, Nat.reduceAdd, Nat.reduceMul, Nat.reduceSub, i_lit, eq_self, and_true, true_and, and_self, not_true_eq_false, not_false_eq_true, or_true, true_or, or_false, false_or, false_and, and_false, reduceCtorEq, Nat.add_left_cancel_iff, Nat.add_zero, Nat.zero_add, cd_all h, k4, v4, fT, i_or, e0]; done))
      | ((with_reducible refine e_in ?_ ?_); focus (simp (disch := omega) only [b_all, sV_all, ↓reduceIte, Nat.reduceEqDiff, Nat.reduceLT, Nat.reduceLeDiff, Nat.reduceAdd, Nat.reduceMul, Nat.reduceSub, i_lit, eq_self, and_true, true_and, and_self, not_true_eq_false, not_false_eq_true, or_true, true_or, or_false, false_or, false_and, and_false, reduceCtorEq, Nat.add_left_cancel_iff, Nat.add_zero, Nat.zero_add, cd_all h, k4, v4, fT, i_or, e0]; done))
      | fail)
    first | with_reducible rfl | simp (disch := omega) only [b_all, sV_all, ↓reduceIte, Nat.reduceEqDiff, Nat.reduceLT, Nat.reduceLeDiff, Nat.reduceAdd, Nat.reduceMul, Nat.reduceSub, i_lit, eq_self, and_true, true_and, and_self, not_true_eq_false, not_false_eq_true, or_true, true_or, or_false, false_or, false_and, and_false, reduceCtorEq, Nat.add_left_cancel_iff, Nat.add_zero, Nat.zero_add, cd_all h, k4, v4, fT, i_or, e0]
  · refine r_unl (rl_free r ht hs) hs (fun a j ha => ?_) (fun o => ?_)
    · by_cases z : a = 100 + 5 * t ∧ j = 14
      · rw [z.1, z.2, U_s, U_s]
      · rw [U_ne _ (by omega), U_ne _ (by omega), f1 _ _ ha]
    · rw [U_ne _ (by omega), U_ne _ (by omega)]; exact f2 o
  · rw [U_r _ (by omega), f1 _ _ (by omega)]
theorem c_give (hk : 5000 ≤ k) (h : St x B C W0 M) (r : Rl C W) (rx : Rx x C) {t : Nat} (ht : t < W 0 5) : ∃ C' M', fX4_giveUpLocks x k B (C 70 t) M = some ((), M') ∧ St x B C' W0 M' ∧ Rl C' (wFrees W t) ∧ Kp C C' := by
  have hb := r.b
  have ht' := r.c ht
  have e0 := (r.t ht).1.1
  have e1 := (r.t ht).1.2.1
  have hs := r.s4 ht
  obtain ⟨C4, M4, e4, h4', f1, f2⟩ := c_unl (k := k) hk h (t := t) (by omega) hs (fun o => cbS2 r.q hs o)
  have f70 : ∀ i, C4 70 i = C 70 i := fun i => f1 _ _ (by omega)
  have f60 : ∀ i, C4 60 i = C 60 i := fun i => f1 _ _ (by omega)
  have fT : ∀ q, C4 (100 + 5 * t) q = C (100 + 5 * t) q := fun q => f1 _ _ (by omega)
  have kp4 : Kp C C4 := Kp.low (fun a j q1 q2 => f1 _ _ (by omega))
  have r4 := r_unl r hs f1 f2
  obtain ⟨k4, v4, -, s4⟩ := tk h4' (t := t) (a := C 70 t) (by rw [f60]; exact ht') (f70 t)
  have ht4 : t < unl W t (W 4 t) 20 0 5 := by rw [unl_r _ _ _ (by omega)]; exact ht
  obtain ⟨C5, M5, e5, h5, r5, kp5⟩ := c_sends (k := k) hk h4' r4 (kp4.rx rx) (kd := 4) ht4 (r4.t ht4).2.2.2.2.1
  rw [unl_r _ _ _ (by omega), unl_r _ _ _ (by omega), ← skF_sd] at r5
  rw [f70 t, fT] at e5
  refine ⟨C5, M5, ?_, h5, r5, kp4.trans kp5⟩
  have kB4 := kB h4'
  unfold fX4_giveUpLocks
  repeat (first
    | (with_reducible refine e_l1 ?_)
    | ((with_reducible refine e_k ?_ (kB h) ?_); focus rfl)
    | ((with_reducible refine e_p ?_ (p_s h) ?_); focus rfl)
    | ((with_reducible refine e_p ?_ (p_t h) ?_); focus rfl)
    | ((with_reducible refine e_p ?_ (p_l h) ?_); focus rfl)
    | ((with_reducible refine e_p ?_ (p_f h) ?_); focus rfl)
    | ((with_reducible refine e_o2 ?_ e4 ?_); focus (first | with_reducible rfl | (simp (disch := omega) only [b_all, sV_all, ↓reduceIte, Nat.reduceEqDiff, Nat.reduceLT, Nat.reduceLeDiff, Nat.reduceAdd, Nat.reduceMul, Nat.reduceSub, i_lit, eq_self, and_true, true_and, and_self, not_true_eq_false, not_false_eq_true, or_true, true_or, or_false, false_or, false_and, and_false, reduceCtorEq, Nat.add_left_cancel_iff, Nat.add_zero, Nat.zero_add, cd_all h, k4, v4, fT, e0, e1, kB4]; done)))
    | ((with_reducible refine e_o2 ?_ e5 ?_); focus (first | with_reducible rfl | (simp (disch := omega) only [b_all, sV_all, ↓reduceIte, Nat.reduceEqDiff, Nat.reduceLT, Nat.reduceLeDiff, Nat.reduceAdd, Nat.reduceMul, Nat.reduceSub, i_lit, eq_self, and_true, true_and, and_self, not_true_eq_false, not_false_eq_true, or_true, true_or, or_false, false_or, false_and, and_false, reduceCtorEq, Nat.add_left_cancel_iff, Nat.add_zero, Nat.zero_add, cd_all h, k4, v4, fT, e0, e1, kB4]; done)))
    | ((with_reducible refine e_T ?_ e4 ?_); focus (first | with_reducible rfl | (simp (disch := omega) only [b_all, sV_all, ↓reduceIte, Nat.reduceEqDiff, Nat.reduceLT, Nat.reduceLeDiff, Nat.reduceAdd, Nat.reduceMul, Nat.reduceSub, i_lit, eq_self, and_true, true_and, and_self, not_true_eq_false, not_false_eq_true, or_true, true_or, or_false, false_or, false_and, and_false, reduceCtorEq, Nat.add_left_cancel_iff, Nat.add_zero, Nat.zero_add, cd_all h, k4, v4, fT, e0, e1, kB4]; done)))
    | ((with_reducible refine e_X ?_ e4 ?_); focus (first | with_reducible rfl | (simp (disch := omega) only [b_all, sV_all, ↓reduceIte, Nat.reduceEqDiff, Nat.reduceLT, Nat.reduceLeDiff, Nat.reduceAdd, Nat.reduceMul, Nat.reduceSub, i_lit, eq_self, and_true, true_and, and_self, not_true_eq_false, not_false_eq_true, or_true, true_or, or_false, false_or, false_and, and_false, reduceCtorEq, Nat.add_left_cancel_iff, Nat.add_zero, Nat.zero_add, cd_all h, k4, v4, fT, e0, e1, kB4]; done)))
    | ((with_reducible refine e_T ?_ e5 ?_); focus (first | with_reducible rfl | (simp (disch := omega) only [b_all, sV_all, ↓reduceIte, Nat.reduceEqDiff, Nat.reduceLT, Nat.reduceLeDiff, Nat.reduceAdd, Nat.reduceMul, Nat.reduceSub, i_lit, eq_self, and_true, true_and, and_self, not_true_eq_false, not_false_eq_true, or_true, true_or, or_false, false_or, false_and, and_false, reduceCtorEq, Nat.add_left_cancel_iff, Nat.add_zero, Nat.zero_add, cd_all h, k4, v4, fT, e0, e1, kB4]; done)))
    | ((with_reducible refine e_X ?_ e5 ?_); focus (first | with_reducible rfl | (simp (disch := omega) only [b_all, sV_all, ↓reduceIte, Nat.reduceEqDiff, Nat.reduceLT, Nat.reduceLeDiff, Nat.reduceAdd, Nat.reduceMul, Nat.reduceSub, i_lit, eq_self, and_true, true_and, and_self, not_true_eq_false, not_false_eq_true, or_true, true_or, or_false, false_or, false_and, and_false, reduceCtorEq, Nat.add_left_cancel_iff, Nat.add_zero, Nat.zero_add, cd_all h, k4, v4, fT, e0, e1, kB4]; done)))
    | ((with_reducible apply e_o1); focus (simp (disch := omega) only [b_all, sV_all, ↓reduceIte, Nat.reduceEqDiff, Nat.reduceLT, Nat.reduceLeDiff, Nat.reduceAdd, Nat.reduceMul, Nat.reduceSub, i_lit, eq_self, and_true, true_and, and_self, not_true_eq_false, not_false_eq_true, or_true, true_or, or_false, false_or, false_and, and_false, reduceCtorEq, Nat.add_left_cancel_iff, Nat.add_zero, Nat.zero_add, cd_all h, k4, v4, fT, e0, e1, kB4]; first | done | rfl))
    | ((with_reducible refine e_ip ?_ ?_); focus (simp (disch := omega) only [b_all, sV_all, ↓reduceIte, Nat.reduceEqDiff, Nat.reduceLT, Nat.reduceLeDiff, Nat.reduceAdd, Nat.reduceMul, Nat.reduceSub, i_lit, eq_self, and_true, true_and, and_self, not_true_eq_false, not_false_eq_true, or_true, true_or, or_false, false_or, false_and, and_false, reduceCtorEq, Nat.add_left_cancel_iff, Nat.add_zero, Nat.zero_add, cd_all h, k4, v4, fT, e0, e1, kB4]; done))
    | ((with_reducible refine e_in ?_ ?_); focus (simp (disch := omega) only [b_all, sV_all, ↓reduceIte, Nat.reduceEqDiff, Nat.reduceLT, Nat.reduceLeDiff, Nat.reduceAdd, Nat.reduceMul, Nat.reduceSub, i_lit, eq_self, and_true, true_and, and_self, not_true_eq_false, not_false_eq_true, or_true, true_or, or_false, false_or, false_and, and_false, reduceCtorEq, Nat.add_left_cancel_iff, Nat.add_zero, Nat.zero_add, cd_all h, k4, v4, fT, e0, e1, kB4]; done))
    | fail)
  first | with_reducible rfl | simp (disch := omega) only [b_all, sV_all, ↓reduceIte, Nat.reduceEqDiff, Nat.reduceLT, Nat.reduceLeDiff, Nat.reduceAdd, Nat.reduceMul, Nat.reduceSub, i_lit, eq_self, and_true, true_and, and_self, not_true_eq_false, not_false_eq_true, or_true, true_or, or_false, false_or, false_and, and_false, reduceCtorEq, Nat.add_left_cancel_iff, Nat.add_zero, Nat.zero_add, cd_all h, k4, v4, fT, e0, e1, kB4]
theorem c_wait (hk : 5000 ≤ k) (h : St x B C W0 M) (r : Rl C W) (rx : Rx x C) {t w : Nat} (ht : t < W 0 5) (f : Nat → Prop) (hw : Bt w 5 f) (W1 : Ab) (hr : ∀ i j, i ≠ 11 → W1 i j = W i j) (hW : Wt W W1 t) (h11 : ∀ s, s < 5 → (W1 11 (5 * t + s) ≠ 0 ↔ f s)) : ∃ C' M', fX4_makeWaiting x k B (C 70 t) (i32 w) M = some ((), M') ∧ St x B C' W0 M' ∧ Rl C' (skF (U (U (lk W1 t (W 4 t) 20) 5 t 1) 18 t 1) 1 (W 4 t) t (W 0 0)) ∧ Kp C C' := by
  have hb := r.b
  have ht' := r.c ht
  have e1 := (r.t ht).1.2.1
  have hs := r.s4 ht
  obtain ⟨C4, M4, e4, h4, r4, kp4⟩ := c_lk (k := k) hk h r ht hs
  have ht4 : t < lk W t (W 4 t) 20 0 5 := by rw [lk_r _ _ _ (by omega)]; exact ht
  obtain ⟨k4, v4, -, s4⟩ := tk h4 (t := t) (a := C 70 t) (r4.c ht4) (kp4.2.1 t)
  have h5 := s4 2 1
  have r5 := rl_state r4 ht4 (v := 1) (by omega)
  have ht5 : t < U (lk W t (W 4 t) 20) 5 t 1 0 5 := by rw [U_r _ (by omega)]; exact ht4
  have kp5 : Kp C (U C4 (100 + 5 * t) 2 1) := kp4.trans (Kp.low (fun a j q1 q2 => U_r _ (by omega) _ _ _))
  obtain ⟨k5, v5, -, s5⟩ := tk h5 (t := t) (a := C 70 t) (r5.c ht5) (kp5.2.1 t)
  have h6 := s5 10 w
  have elk : ∀ n, lk W1 t (W 4 t) n = fun i j => if i = 11 then W1 11 j else lk W t (W 4 t) n i j := by
    intro n
    induction n with
    | zero =>
      funext i j
      by_cases z : i = 11
      · rw [if_pos z, z]; rfl
      · rw [if_neg z]; exact hr i j z
    | succ n ih =>
      have q : (lk W1 t (W 4 t) (n + 1)) = if W1 13 (20 * t + n) ≠ 0 ∧ n % W1 0 0 = W 4 t then U (lk W1 t (W 4 t) n) 3 (20 * W 4 t + n) t else lk W1 t (W 4 t) n := rfl
      have q' : (lk W t (W 4 t) (n + 1)) = if W 13 (20 * t + n) ≠ 0 ∧ n % W 0 0 = W 4 t then U (lk W t (W 4 t) n) 3 (20 * W 4 t + n) t else lk W t (W 4 t) n := rfl
      rw [q, q', hr 13 _ (by omega), hr 0 0 (by omega), ih]
      funext i j
      by_cases c : W 13 (20 * t + n) ≠ 0 ∧ n % W 0 0 = W 4 t
      · rw [if_pos c, if_pos c]
        by_cases z : i = 11
        · rw [if_pos z, z, U_r _ (by omega)]; exact if_pos rfl
        · rw [if_neg z]
          by_cases z' : i = 3 ∧ j = 20 * W 4 t + n
          · rw [z'.1, z'.2, U_s, U_s]
          · rw [U_ne _ (by omega), U_ne _ (by omega)]; exact if_neg z
      · rw [if_neg c, if_neg c]
  have r6 : Rl (U (U C4 (100 + 5 * t) 2 1) (100 + 5 * t) 10 w) (U (lk W1 t (W 4 t) 20) 5 t 1) := by
    refine rl_10 r5 ht5 (fun i j hi => ?_) (fun i j hn => ?_) (hw.congr (fun s hs' => ?_))
    · rw [elk]
      by_cases z : i = 5 ∧ j = t
      · rw [z.1, z.2, U_s, U_s]
      · rw [U_ne _ (by omega), U_ne _ (by omega)]; exact if_neg hi
    · rw [elk]
      by_cases z : i = 5 ∧ j = t
      · rw [z.1, z.2, U_s, U_s]
      · rw [U_ne _ (by omega), U_ne _ (by omega)]
        by_cases z' : i = 11
        · subst z'
          show (if 11 = 11 then W1 11 j else _) = _
          rw [if_pos rfl, hW _ _ hn, lk_r _ _ _ (by omega)]
        · exact if_neg z'
    · rw [U_r _ (by omega), elk]
      show f s ↔ (if 11 = 11 then W1 11 (5 * t + s) else _) ≠ 0
      rw [if_pos rfl]; exact (h11 s hs').symm
  have ht6 : t < U (lk W1 t (W 4 t) 20) 5 t 1 0 5 := by rw [U_r _ (by omega), lk_r _ _ _ (by omega), hr _ _ (by omega)]; exact ht
  have r7 := rl_18 r6 ht6 1
  have kp6 : Kp C (U (U C4 (100 + 5 * t) 2 1) (100 + 5 * t) 10 w) := kp5.trans (Kp.low (fun a j q1 q2 => U_r _ (by omega) _ _ _))
  have a00 : U (U (lk W1 t (W 4 t) 20) 5 t 1) 18 t 1 0 0 = W 0 0 := by rw [U_r _ (by omega), U_r _ (by omega), lk_r _ _ _ (by omega), hr _ _ (by omega)]
  have a05 : U (U (lk W1 t (W 4 t) 20) 5 t 1) 18 t 1 0 5 = W 0 5 := by rw [U_r _ (by omega), U_r _ (by omega), lk_r _ _ _ (by omega), hr _ _ (by omega)]
  have a4 : U (U (lk W1 t (W 4 t) 20) 5 t 1) 18 t 1 4 t = W 4 t := by rw [U_r _ (by omega), U_r _ (by omega), lk_r _ _ _ (by omega), hr _ _ (by omega)]
  have ht7 : t < U (U (lk W1 t (W 4 t) 20) 5 t 1) 18 t 1 0 5 := by omega
  have hw7 : Bt w 5 (fun s => U (U (lk W1 t (W 4 t) 20) 5 t 1) 18 t 1 11 (5 * t + s) ≠ 0) := hw.congr (fun s hs' => by
    rw [U_r _ (by omega), U_r _ (by omega), lk_r _ _ _ (by omega)]; exact (h11 s hs').symm)
  obtain ⟨C8, M8, e8, h8, r8, kp8⟩ := c_sends (k := k) hk h6 r7 (kp6.rx rx) (kd := 1) ht7 hw7
  rw [a00, a4, ← skF_sd] at r8
  rw [kp6.2.1 t, ct_congr 5 (fun s hs' => show U (U (lk W1 t (W 4 t) 20) 5 t 1) 18 t 1 11 (5 * t + s) ≠ 0 ↔ f s by rw [U_r _ (by omega), U_r _ (by omega), lk_r _ _ _ (by omega)]; exact h11 s hs')] at e8
  refine ⟨C8, M8, ?_, h8, r8, kp6.trans kp8⟩
  have kB4 := kB h4
  unfold fX4_makeWaiting
  repeat (first
    | (with_reducible refine e_l1 ?_)
    | ((with_reducible refine e_k ?_ (kB h) ?_); focus rfl)
    | ((with_reducible refine e_p ?_ (p_s h) ?_); focus rfl)
    | ((with_reducible refine e_p ?_ (p_t h) ?_); focus rfl)
    | ((with_reducible refine e_p ?_ (p_l h) ?_); focus rfl)
    | ((with_reducible refine e_p ?_ (p_f h) ?_); focus rfl)
    | ((with_reducible refine e_o2 ?_ e4 ?_); focus (first | with_reducible rfl | (simp (disch := omega) only [b_all, sV_all, ↓reduceIte, Nat.reduceEqDiff, Nat.reduceLT, Nat.reduceLeDiff, Nat.reduceAdd, Nat.reduceMul, Nat.reduceSub, i_lit, eq_self, and_true, true_and, and_self, not_true_eq_false, not_false_eq_true, or_true, true_or, or_false, false_or, false_and, and_false, reduceCtorEq, Nat.add_left_cancel_iff, Nat.add_zero, Nat.zero_add, cd_all h, k4, v4, e1, kB4]; done)))
    | ((with_reducible refine e_o2 ?_ e8 ?_); focus (first | with_reducible rfl | (simp (disch := omega) only [b_all, sV_all, ↓reduceIte, Nat.reduceEqDiff, Nat.reduceLT, Nat.reduceLeDiff, Nat.reduceAdd, Nat.reduceMul, Nat.reduceSub, i_lit, eq_self, and_true, true_and, and_self, not_true_eq_false, not_false_eq_true, or_true, true_or, or_false, false_or, false_and, and_false, reduceCtorEq, Nat.add_left_cancel_iff, Nat.add_zero, Nat.zero_add, cd_all h, k4, v4, e1, kB4]; done)))
    | ((with_reducible refine e_T ?_ e4 ?_); focus (first | with_reducible rfl | (simp (disch := omega) only [b_all, sV_all, ↓reduceIte, Nat.reduceEqDiff, Nat.reduceLT, Nat.reduceLeDiff, Nat.reduceAdd, Nat.reduceMul, Nat.reduceSub, i_lit, eq_self, and_true, true_and, and_self, not_true_eq_false, not_false_eq_true, or_true, true_or, or_false, false_or, false_and, and_false, reduceCtorEq, Nat.add_left_cancel_iff, Nat.add_zero, Nat.zero_add, cd_all h, k4, v4, e1, kB4]; done)))
    | ((with_reducible refine e_X ?_ e4 ?_); focus (first | with_reducible rfl | (simp (disch := omega) only [b_all, sV_all, ↓reduceIte, Nat.reduceEqDiff, Nat.reduceLT, Nat.reduceLeDiff, Nat.reduceAdd, Nat.reduceMul, Nat.reduceSub, i_lit, eq_self, and_true, true_and, and_self, not_true_eq_false, not_false_eq_true, or_true, true_or, or_false, false_or, false_and, and_false, reduceCtorEq, Nat.add_left_cancel_iff, Nat.add_zero, Nat.zero_add, cd_all h, k4, v4, e1, kB4]; done)))
    | ((with_reducible refine e_T ?_ e8 ?_); focus (first | with_reducible rfl | (simp (disch := omega) only [b_all, sV_all, ↓reduceIte, Nat.reduceEqDiff, Nat.reduceLT, Nat.reduceLeDiff, Nat.reduceAdd, Nat.reduceMul, Nat.reduceSub, i_lit, eq_self, and_true, true_and, and_self, not_true_eq_false, not_false_eq_true, or_true, true_or, or_false, false_or, false_and, and_false, reduceCtorEq, Nat.add_left_cancel_iff, Nat.add_zero, Nat.zero_add, cd_all h, k4, v4, e1, kB4]; done)))
    | ((with_reducible refine e_X ?_ e8 ?_); focus (first | with_reducible rfl | (simp (disch := omega) only [b_all, sV_all, ↓reduceIte, Nat.reduceEqDiff, Nat.reduceLT, Nat.reduceLeDiff, Nat.reduceAdd, Nat.reduceMul, Nat.reduceSub, i_lit, eq_self, and_true, true_and, and_self, not_true_eq_false, not_false_eq_true, or_true, true_or, or_false, false_or, false_and, and_false, reduceCtorEq, Nat.add_left_cancel_iff, Nat.add_zero, Nat.zero_add, cd_all h, k4, v4, e1, kB4]; done)))
    | ((with_reducible apply e_o1); focus (simp (disch := omega) only [b_all, sV_all, ↓reduceIte, Nat.reduceEqDiff, Nat.reduceLT, Nat.reduceLeDiff, Nat.reduceAdd, Nat.reduceMul, Nat.reduceSub, i_lit, eq_self, and_true, true_and, and_self, not_true_eq_false, not_false_eq_true, or_true, true_or, or_false, false_or, false_and, and_false, reduceCtorEq, Nat.add_left_cancel_iff, Nat.add_zero, Nat.zero_add, cd_all h, k4, v4, e1, kB4]; first | done | rfl))
    | ((with_reducible refine e_ip ?_ ?_); focus (simp (disch := omega) only [b_all, sV_all, ↓reduceIte, Nat.reduceEqDiff, Nat.reduceLT, Nat.reduceLeDiff, Nat.reduceAdd, Nat.reduceMul, Nat.reduceSub, i_lit, eq_self, and_true, true_and, and_self, not_true_eq_false, not_false_eq_true, or_true, true_or, or_false, false_or, false_and, and_false, reduceCtorEq, Nat.add_left_cancel_iff, Nat.add_zero, Nat.zero_add, cd_all h, k4, v4, e1, kB4]; done))
    | ((with_reducible refine e_in ?_ ?_); focus (simp (disch := omega) only [b_all, sV_all, ↓reduceIte, Nat.reduceEqDiff, Nat.reduceLT, Nat.reduceLeDiff, Nat.reduceAdd, Nat.reduceMul, Nat.reduceSub, i_lit, eq_self, and_true, true_and, and_self, not_true_eq_false, not_false_eq_true, or_true, true_or, or_false, false_or, false_and, and_false, reduceCtorEq, Nat.add_left_cancel_iff, Nat.add_zero, Nat.zero_add, cd_all h, k4, v4, e1, kB4]; done))
    | fail)
  first | with_reducible rfl | simp (disch := omega) only [b_all, sV_all, ↓reduceIte, Nat.reduceEqDiff, Nat.reduceLT, Nat.reduceLeDiff, Nat.reduceAdd, Nat.reduceMul, Nat.reduceSub, i_lit, eq_self, and_true, true_and, and_self, not_true_eq_false, not_false_eq_true, or_true, true_or, or_false, false_or, false_and, and_false, reduceCtorEq, Nat.add_left_cancel_iff, Nat.add_zero, Nat.zero_add, cd_all h, k4, v4, e1, kB4]
theorem c_commits (hk : 5000 ≤ k) (h : St x B C W0 M) (r : Rl C W) (rx : Rx x C) {t : Nat} (ht : t < W 0 5) (h8 : W 8 (5 * t + W 4 t) = 0) (hv : W 1 (5 * W 4 t + W 4 t) + 1 < 1073741824) : ∃ C' M', fX4_makeCommitted x k B (C 70 t) M = some ((), M') ∧ St x B C' W0 M' ∧ Rl C' (wCommits W t) ∧ Kp C C' := by
  have hb := r.b
  have ht' := r.c ht
  have e1 := (r.t ht).1.2.1
  have hs := r.s4 ht
  have hT := (st_T5 h ht').1.1
  have hsA := sA_b B hs
  have h1 := suT0 h ht' 2 2
  have r1 := rl_state r ht (v := 2) (by omega)
  have ht1 : t < U W 5 t 2 0 5 := by rw [U_r _ (by omega)]; exact ht
  have kp1 : Kp C (U C (100 + 5 * t) 2 2) := Kp.low (fun a j q1 q2 => U_r _ (by omega) _ _ _)
  obtain ⟨k1, v1, -, s1⟩ := tk h1 (t := t) (a := C 70 t) (r1.c ht1) (kp1.2.1 t)
  have h2 := s1 3 (W 1 (5 * W 4 t + W 4 t) + 1)
  have r2 := rl_seq r1 ht1 (v := W 1 (5 * W 4 t + W 4 t) + 1) hv
  have ht2 : t < U (U W 5 t 2) 6 t (W 1 (5 * W 4 t + W 4 t) + 1) 0 5 := by rw [U_r _ (by omega)]; exact ht1
  have kp2 : Kp C (U (U C (100 + 5 * t) 2 2) (100 + 5 * t) 3 (W 1 (5 * W 4 t + W 4 t) + 1)) := kp1.trans (Kp.low (fun a j q1 q2 => U_r _ (by omega) _ _ _))
  have w4 : U (U W 5 t 2) 6 t (W 1 (5 * W 4 t + W 4 t) + 1) 4 t = W 4 t := by rw [U_r _ (by omega), U_r _ (by omega)]
  have w8 : U (U W 5 t 2) 6 t (W 1 (5 * W 4 t + W 4 t) + 1) 8 (5 * t + W 4 t) = 0 := by rw [U_r _ (by omega), U_r _ (by omega)]; exact h8
  obtain ⟨C3, M3, e3, h3, r3, kp3⟩ := c_apply (k := k) hk h2 r2 ht2 hs w8 (by rw [w4, U_r _ (by omega), U_r _ (by omega)]; exact hv)
  rw [kp2.2.1 t] at e3
  have kp3' := kp2.trans kp3
  have ec : U (U W 5 t 2) 6 t (W 1 (5 * W 4 t + W 4 t) + 1) = wCom1 W t := rfl
  rw [ec] at r3
  have d0 : ∀ j, j ≠ 4 → wApp (wCom1 W t) t (W 4 t) 0 j = W 0 j := fun j hj => by
    rw [wApp_0 _ _ _ hj]; unfold wCom1; rw [U_r _ (by omega), U_r _ (by omega)]
  have d4 : wApp (wCom1 W t) t (W 4 t) 4 t = W 4 t := by
    rw [wApp_r _ _ _ (by omega)]; exact w4
  have ht3 : t < wApp (wCom1 W t) t (W 4 t) 0 5 := by rw [d0 _ (by omega)]; exact ht
  obtain ⟨k3, v3, -, s3⟩ := tk h3 (t := t) (a := C 70 t) (r3.c ht3) (kp3'.2.1 t)
  have e3' := (r3.t ht3).1.2.1
  rw [d4] at e3'
  obtain ⟨wa, ea, ba⟩ := c_all (k := k) h3 r3
  have eb := c_bit (x := x) (k := k) (M := M3) (a := W 4 t) (by omega)
  have bw := ba.andn (by omega) (Bt.one hs)
  obtain ⟨C5, M5, e5, h5, r5, kp5⟩ := c_sends (k := k) hk h3 r3 (kp3'.rx rx) (kd := 5) ht3 bw
  rw [d0 _ (by omega), d4] at r5
  rw [kp3'.2.1 t] at e5
  refine ⟨C5, M5, ?_, h5, ?_, kp3'.trans kp5⟩
  · have kB3 := kB h3
    have v1' := (r.p hs).2.1 (W 4 t) hs
    have eq : fX4_applyAt x k B (C 70 t) (i32 (W 4 t)) (sV (sV M (C 70 t) 2 (i32 2)) (C 70 t) 3 (i32 (W 1 (5 * W 4 t + W 4 t) + 1))) = some ((), M3) := e3
    unfold fX4_makeCommitted
    repeat (first
      | (with_reducible refine e_l1 ?_)
      | ((with_reducible refine e_k ?_ (kB h) ?_); focus rfl)
      | ((with_reducible refine e_p ?_ (p_s h) ?_); focus rfl)
      | ((with_reducible refine e_p ?_ (p_t h) ?_); focus rfl)
      | ((with_reducible refine e_p ?_ (p_l h) ?_); focus rfl)
      | ((with_reducible refine e_p ?_ (p_f h) ?_); focus rfl)
      | ((with_reducible refine e_o2 ?_ eq ?_); focus (first | with_reducible rfl | (simp (disch := omega) only [b_all, sV_all, ↓reduceIte, Nat.reduceEqDiff, Nat.reduceLT, Nat.reduceLeDiff, Nat.reduceAdd, Nat.reduceMul, Nat.reduceSub, i_lit, eq_self, and_true, true_and, and_self, not_true_eq_false, not_false_eq_true, or_true, true_or, or_false, false_or, false_and, and_false, reduceCtorEq, Nat.add_left_cancel_iff, Nat.add_zero, Nat.zero_add, cd_all h, k3, v3, e3', e1, kB3, v1', i_and, i_xor]; done)))
      | ((with_reducible refine e_o2 ?_ ea ?_); focus (first | with_reducible rfl | (simp (disch := omega) only [b_all, sV_all, ↓reduceIte, Nat.reduceEqDiff, Nat.reduceLT, Nat.reduceLeDiff, Nat.reduceAdd, Nat.reduceMul, Nat.reduceSub, i_lit, eq_self, and_true, true_and, and_self, not_true_eq_false, not_false_eq_true, or_true, true_or, or_false, false_or, false_and, and_false, reduceCtorEq, Nat.add_left_cancel_iff, Nat.add_zero, Nat.zero_add, cd_all h, k3, v3, e3', e1, kB3, v1', i_and, i_xor]; done)))
      | ((with_reducible refine e_o2 ?_ eb ?_); focus (first | with_reducible rfl | (simp (disch := omega) only [b_all, sV_all, ↓reduceIte, Nat.reduceEqDiff, Nat.reduceLT, Nat.reduceLeDiff, Nat.reduceAdd, Nat.reduceMul, Nat.reduceSub, i_lit, eq_self, and_true, true_and, and_self, not_true_eq_false, not_false_eq_true, or_true, true_or, or_false, false_or, false_and, and_false, reduceCtorEq, Nat.add_left_cancel_iff, Nat.add_zero, Nat.zero_add, cd_all h, k3, v3, e3', e1, kB3, v1', i_and, i_xor]; done)))
      | ((with_reducible refine e_o2 ?_ e5 ?_); focus (first | with_reducible rfl | (simp (disch := omega) only [b_all, sV_all, ↓reduceIte, Nat.reduceEqDiff, Nat.reduceLT, Nat.reduceLeDiff, Nat.reduceAdd, Nat.reduceMul, Nat.reduceSub, i_lit, eq_self, and_true, true_and, and_self, not_true_eq_false, not_false_eq_true, or_true, true_or, or_false, false_or, false_and, and_false, reduceCtorEq, Nat.add_left_cancel_iff, Nat.add_zero, Nat.zero_add, cd_all h, k3, v3, e3', e1, kB3, v1', i_and, i_xor]; done)))
      | ((with_reducible refine e_T ?_ eq ?_); focus (first | with_reducible rfl | (simp (disch := omega) only [b_all, sV_all, ↓reduceIte, Nat.reduceEqDiff, Nat.reduceLT, Nat.reduceLeDiff, Nat.reduceAdd, Nat.reduceMul, Nat.reduceSub, i_lit, eq_self, and_true, true_and, and_self, not_true_eq_false, not_false_eq_true, or_true, true_or, or_false, false_or, false_and, and_false, reduceCtorEq, Nat.add_left_cancel_iff, Nat.add_zero, Nat.zero_add, cd_all h, k3, v3, e3', e1, kB3, v1', i_and, i_xor]; done)))
      | ((with_reducible refine e_X ?_ eq ?_); focus (first | with_reducible rfl | (simp (disch := omega) only [b_all, sV_all, ↓reduceIte, Nat.reduceEqDiff, Nat.reduceLT, Nat.reduceLeDiff, Nat.reduceAdd, Nat.reduceMul, Nat.reduceSub, i_lit, eq_self, and_true, true_and, and_self, not_true_eq_false, not_false_eq_true, or_true, true_or, or_false, false_or, false_and, and_false, reduceCtorEq, Nat.add_left_cancel_iff, Nat.add_zero, Nat.zero_add, cd_all h, k3, v3, e3', e1, kB3, v1', i_and, i_xor]; done)))
      | ((with_reducible refine e_T ?_ ea ?_); focus (first | with_reducible rfl | (simp (disch := omega) only [b_all, sV_all, ↓reduceIte, Nat.reduceEqDiff, Nat.reduceLT, Nat.reduceLeDiff, Nat.reduceAdd, Nat.reduceMul, Nat.reduceSub, i_lit, eq_self, and_true, true_and, and_self, not_true_eq_false, not_false_eq_true, or_true, true_or, or_false, false_or, false_and, and_false, reduceCtorEq, Nat.add_left_cancel_iff, Nat.add_zero, Nat.zero_add, cd_all h, k3, v3, e3', e1, kB3, v1', i_and, i_xor]; done)))
      | ((with_reducible refine e_X ?_ ea ?_); focus (first | with_reducible rfl | (simp (disch := omega) only [b_all, sV_all, ↓reduceIte, Nat.reduceEqDiff, Nat.reduceLT, Nat.reduceLeDiff, Nat.reduceAdd, Nat.reduceMul, Nat.reduceSub, i_lit, eq_self, and_true, true_and, and_self, not_true_eq_false, not_false_eq_true, or_true, true_or, or_false, false_or, false_and, and_false, reduceCtorEq, Nat.add_left_cancel_iff, Nat.add_zero, Nat.zero_add, cd_all h, k3, v3, e3', e1, kB3, v1', i_and, i_xor]; done)))
      | ((with_reducible refine e_T ?_ eb ?_); focus (first | with_reducible rfl | (simp (disch := omega) only [b_all, sV_all, ↓reduceIte, Nat.reduceEqDiff, Nat.reduceLT, Nat.reduceLeDiff, Nat.reduceAdd, Nat.reduceMul, Nat.reduceSub, i_lit, eq_self, and_true, true_and, and_self, not_true_eq_false, not_false_eq_true, or_true, true_or, or_false, false_or, false_and, and_false, reduceCtorEq, Nat.add_left_cancel_iff, Nat.add_zero, Nat.zero_add, cd_all h, k3, v3, e3', e1, kB3, v1', i_and, i_xor]; done)))
      | ((with_reducible refine e_X ?_ eb ?_); focus (first | with_reducible rfl | (simp (disch := omega) only [b_all, sV_all, ↓reduceIte, Nat.reduceEqDiff, Nat.reduceLT, Nat.reduceLeDiff, Nat.reduceAdd, Nat.reduceMul, Nat.reduceSub, i_lit, eq_self, and_true, true_and, and_self, not_true_eq_false, not_false_eq_true, or_true, true_or, or_false, false_or, false_and, and_false, reduceCtorEq, Nat.add_left_cancel_iff, Nat.add_zero, Nat.zero_add, cd_all h, k3, v3, e3', e1, kB3, v1', i_and, i_xor]; done)))
      | ((with_reducible refine e_T ?_ e5 ?_); focus (first | with_reducible rfl | (simp (disch := omega) only [b_all, sV_all, ↓reduceIte, Nat.reduceEqDiff, Nat.reduceLT, Nat.reduceLeDiff, Nat.reduceAdd, Nat.reduceMul, Nat.reduceSub, i_lit, eq_self, and_true, true_and, and_self, not_true_eq_false, not_false_eq_true, or_true, true_or, or_false, false_or, false_and, and_false, reduceCtorEq, Nat.add_left_cancel_iff, Nat.add_zero, Nat.zero_add, cd_all h, k3, v3, e3', e1, kB3, v1', i_and, i_xor]; done)))
      | ((with_reducible refine e_X ?_ e5 ?_); focus (first | with_reducible rfl | (simp (disch := omega) only [b_all, sV_all, ↓reduceIte, Nat.reduceEqDiff, Nat.reduceLT, Nat.reduceLeDiff, Nat.reduceAdd, Nat.reduceMul, Nat.reduceSub, i_lit, eq_self, and_true, true_and, and_self, not_true_eq_false, not_false_eq_true, or_true, true_or, or_false, false_or, false_and, and_false, reduceCtorEq, Nat.add_left_cancel_iff, Nat.add_zero, Nat.zero_add, cd_all h, k3, v3, e3', e1, kB3, v1', i_and, i_xor]; done)))
      | ((with_reducible apply e_o1); focus (simp (disch := omega) only [b_all, sV_all, ↓reduceIte, Nat.reduceEqDiff, Nat.reduceLT, Nat.reduceLeDiff, Nat.reduceAdd, Nat.reduceMul, Nat.reduceSub, i_lit, eq_self, and_true, true_and, and_self, not_true_eq_false, not_false_eq_true, or_true, true_or, or_false, false_or, false_and, and_false, reduceCtorEq, Nat.add_left_cancel_iff, Nat.add_zero, Nat.zero_add, cd_all h, k3, v3, e3', e1, kB3, v1', i_and, i_xor]; first | done | rfl))
      | ((with_reducible refine e_ip ?_ ?_); focus (simp (disch := omega) only [b_all, sV_all, ↓reduceIte, Nat.reduceEqDiff, Nat.reduceLT, Nat.reduceLeDiff, Nat.reduceAdd, Nat.reduceMul, Nat.reduceSub, i_lit, eq_self, and_true, true_and, and_self, not_true_eq_false, not_false_eq_true, or_true, true_or, or_false, false_or, false_and, and_false, reduceCtorEq, Nat.add_left_cancel_iff, Nat.add_zero, Nat.zero_add, cd_all h, k3, v3, e3', e1, kB3, v1', i_and, i_xor]; done))
      | ((with_reducible refine e_in ?_ ?_); focus (simp (disch := omega) only [b_all, sV_all, ↓reduceIte, Nat.reduceEqDiff, Nat.reduceLT, Nat.reduceLeDiff, Nat.reduceAdd, Nat.reduceMul, Nat.reduceSub, i_lit, eq_self, and_true, true_and, and_self, not_true_eq_false, not_false_eq_true, or_true, true_or, or_false, false_or, false_and, and_false, reduceCtorEq, Nat.add_left_cancel_iff, Nat.add_zero, Nat.zero_add, cd_all h, k3, v3, e3', e1, kB3, v1', i_and, i_xor]; done))
      | fail)
    first | with_reducible rfl | simp (disch := omega) only [b_all, sV_all, ↓reduceIte, Nat.reduceEqDiff, Nat.reduceLT, Nat.reduceLeDiff, Nat.reduceAdd, Nat.reduceMul, Nat.reduceSub, i_lit, eq_self, and_true, true_and, and_self, not_true_eq_false, not_false_eq_true, or_true, true_or, or_false, false_or, false_and, and_false, reduceCtorEq, Nat.add_left_cancel_iff, Nat.add_zero, Nat.zero_add, cd_all h, k3, v3, e3', e1, kB3, v1', i_and, i_xor]
  · unfold wCommits
    rw [tlF_sd]
    have : ∀ n, n ≤ W 0 0 → sdF (wApp (wCom1 W t) t (W 4 t)) 5 (W 4 t) t (fun s => s ≠ W 4 t) n = sdF (wApp (wCom1 W t) t (W 4 t)) 5 (W 4 t) t (fun j => j < W 0 0 ∧ ¬ j = W 4 t) n := by
      intro n
      induction n with
      | zero => intro _; rfl
      | succ n ih =>
        intro hn
        by_cases c : n = W 4 t
        · rw [sdF_f (fun z => z c), sdF_f (fun z => z.2 c), ih (by omega)]
        · rw [sdF_t (p := fun s => s ≠ W 4 t) c, sdF_t (p := fun j => j < W 0 0 ∧ ¬ j = W 4 t) ⟨by omega, c⟩, ih (by omega)]
    rw [this _ (Nat.le_refl _)]; exact r5
end
