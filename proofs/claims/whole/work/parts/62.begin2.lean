/-! Class and reference answer alike: begin, second part -/
section
variable {x : Cx} {k B : Nat} {C W W0 : Ab} {M : Mm}
/-- fields that a new transaction has nought -/
def zq (q : Nat) : Prop := q = 5 ∨ q = 7 ∨ q = 10 ∨ q = 11 ∨ q = 12 ∨ q = 13 ∨ q = 14 ∨ q = 15
theorem c_start23 {n s : Nat} (hs : s < 5) (a : Nat) : ∀ m j C M, St x B C W0 M → n < C 60 0 → C 70 n = a → j ≤ 5 → 5 < m + j → ∃ C' M', fX3_startAt_23 x k m a (sA B s + 1) (i32 j) M = some ((), M') ∧ St x B C' W0 M' ∧ (∀ b q, b ≠ 100 + 5 * n → b ≠ 101 + 5 * n → C' b q = C b q) ∧ (∀ q, C' (101 + 5 * n) q = if j ≤ q ∧ q < 5 then C (3 + 4 * s) q else C (101 + 5 * n) q) ∧ (∀ q, zq q → C' (100 + 5 * n) q = 0) ∧ ∀ q, ¬ zq q → C' (100 + 5 * n) q = C (100 + 5 * n) q := by
  intro m
  induction m with
  | zero => intro j C M _ _ _ h1 h2; omega
  | succ m ih =>
    intro j C M h hn ha hj hm
    by_cases c : 5 ≤ j
    · have ht := st_T200 h
      have z60 : ∀ (D : Ab) (q v : Nat), U D (100 + 5 * n) q v 60 0 = D 60 0 := fun D q v => U_r _ (by omega) _ _ _
      have z70 : ∀ (D : Ab) (q v : Nat), U D (100 + 5 * n) q v 70 n = D 70 n := fun D q v => U_r _ (by omega) _ _ _
      obtain ⟨k0, -, -, s0⟩ := tk h hn ha
      have h1 := s0 5 0
      obtain ⟨k1, -, -, s1⟩ := tk h1 (t := n) (a := a) (by rw [z60]; exact hn) (by rw [z70]; exact ha)
      have h2 := s1 7 0
      obtain ⟨k2, -, -, s2⟩ := tk h2 (t := n) (a := a) (by rw [z60, z60]; exact hn) (by rw [z70, z70]; exact ha)
      have h3 := s2 10 0
      obtain ⟨k3, -, -, s3⟩ := tk h3 (t := n) (a := a) (by rw [z60, z60, z60]; exact hn) (by rw [z70, z70, z70]; exact ha)
      have h4 := s3 11 0
      obtain ⟨k4, -, -, s4⟩ := tk h4 (t := n) (a := a) (by rw [z60, z60, z60, z60]; exact hn) (by rw [z70, z70, z70, z70]; exact ha)
      have h5 := s4 12 0
      obtain ⟨k5, -, -, s5⟩ := tk h5 (t := n) (a := a) (by rw [z60, z60, z60, z60, z60]; exact hn) (by rw [z70, z70, z70, z70, z70]; exact ha)
      have h6 := s5 13 0
      obtain ⟨k6, -, -, s6⟩ := tk h6 (t := n) (a := a) (by rw [z60, z60, z60, z60, z60, z60]; exact hn) (by rw [z70, z70, z70, z70, z70, z70]; exact ha)
      have h7 := s6 14 0
      obtain ⟨k7, -, -, s7⟩ := tk h7 (t := n) (a := a) (by rw [z60, z60, z60, z60, z60, z60, z60]; exact hn) (by rw [z70, z70, z70, z70, z70, z70, z70]; exact ha)
      have h8 := s7 15 0
      refine ⟨_, _, ?_, h8, fun b q q1 q2 => ?_, fun q => ?_, fun q hq => ?_, fun q hq => ?_⟩
      · rw [fX3_startAt_23]
        repeat (first
          | (with_reducible refine e_l1 ?_)
          | ((with_reducible refine e_k ?_ (kB h) ?_); focus rfl)
          | ((with_reducible refine e_p ?_ (p_s h) ?_); focus rfl)
          | ((with_reducible refine e_p ?_ (p_t h) ?_); focus rfl)
          | ((with_reducible refine e_p ?_ (p_l h) ?_); focus rfl)
          | ((with_reducible refine e_p ?_ (p_f h) ?_); focus rfl)
          | ((with_reducible apply e_o1); focus (simp (disch := omega) only [b_all, sV_all, ↓reduceIte, Nat.reduceEqDiff, Nat.reduceLT, Nat.reduceLeDiff, Nat.reduceAdd, Nat.reduceMul, Nat.reduceSub, i_lit, eq_self, and_true, true_and, and_self, not_true_eq_false, not_false_eq_true, or_true, true_or, or_false, false_or, false_and, and_false, reduceCtorEq, Nat.add_left_cancel_iff, Nat.add_zero, Nat.zero_add, cd_all h, k0]; first | done | rfl))
          | ((with_reducible refine e_ip ?_ ?_); focus (simp (disch := omega) only [b_all, sV_all, ↓reduceIte, Nat.reduceEqDiff, Nat.reduceLT, Nat.reduceLeDiff, Nat.reduceAdd, Nat.reduceMul, Nat.reduceSub, i_lit, eq_self, and_true, true_and, and_self, not_true_eq_false, not_false_eq_true, or_true, true_or, or_false, false_or, false_and, and_false, reduceCtorEq, Nat.add_left_cancel_iff, Nat.add_zero, Nat.zero_add, cd_all h, k0]; done))
          | ((with_reducible refine e_in ?_ ?_); focus (simp (disch := omega) only [b_all, sV_all, ↓reduceIte, Nat.reduceEqDiff, Nat.reduceLT, Nat.reduceLeDiff, Nat.reduceAdd, Nat.reduceMul, Nat.reduceSub, i_lit, eq_self, and_true, true_and, and_self, not_true_eq_false, not_false_eq_true, or_true, true_or, or_false, false_or, false_and, and_false, reduceCtorEq, Nat.add_left_cancel_iff, Nat.add_zero, Nat.zero_add, cd_all h, k0]; done))
          | fail)
        first | with_reducible rfl | simp (disch := omega) only [b_all, sV_all, ↓reduceIte, Nat.reduceEqDiff, Nat.reduceLT, Nat.reduceLeDiff, Nat.reduceAdd, Nat.reduceMul, Nat.reduceSub, i_lit, eq_self, and_true, true_and, and_self, not_true_eq_false, not_false_eq_true, or_true, true_or, or_false, false_or, false_and, and_false, reduceCtorEq, Nat.add_left_cancel_iff, Nat.add_zero, Nat.zero_add, cd_all h, k0]
      · simp (disch := omega) only [U_ne]
      · rw [if_neg (by omega)]; simp (disch := omega) only [U_ne]
      · rcases hq with rfl | rfl | rfl | rfl | rfl | rfl | rfl | rfl
        all_goals simp (disch := omega) only [U_ne, U_s]
      · unfold zq at hq
        simp (disch := omega) only [U_ne]
    · subst ha
      have h1 := suT1 h hn j (C (3 + 4 * s) j)
      have ht := st_T200 h
      obtain ⟨C', M', e, h', f1, f2, f3, f4⟩ := ih (j + 1) _ _ h1 (by rw [U_r _ (by omega)]; exact hn) (by rw [U_r _ (by omega)]) (by omega) (by omega)
      refine ⟨C', M', ?_, h', fun b q q1 q2 => by rw [f1 b q q1 q2, U_r _ q2], fun q => ?_, f3, fun q hq => by rw [f4 q hq, U_r _ (by omega)]⟩
      · rw [← e, fX3_startAt_23]
        repeat (first
          | (with_reducible refine e_l1 ?_)
          | ((with_reducible refine e_k ?_ (kB h) ?_); focus rfl)
          | ((with_reducible refine e_p ?_ (p_s h) ?_); focus rfl)
          | ((with_reducible refine e_p ?_ (p_t h) ?_); focus rfl)
          | ((with_reducible refine e_p ?_ (p_l h) ?_); focus rfl)
          | ((with_reducible refine e_p ?_ (p_f h) ?_); focus rfl)
          | ((with_reducible apply e_o1); focus (simp (disch := omega) only [b_all, sV_all, ↓reduceIte, Nat.reduceEqDiff, Nat.reduceLT, Nat.reduceLeDiff, Nat.reduceAdd, Nat.reduceMul, Nat.reduceSub, i_lit, eq_self, and_true, true_and, and_self, not_true_eq_false, not_false_eq_true, or_true, true_or, or_false, false_or, false_and, and_false, reduceCtorEq, Nat.add_left_cancel_iff, Nat.add_zero, Nat.zero_add, cd_all h]; first | done | rfl))
          | ((with_reducible refine e_ip ?_ ?_); focus (simp (disch := omega) only [b_all, sV_all, ↓reduceIte, Nat.reduceEqDiff, Nat.reduceLT, Nat.reduceLeDiff, Nat.reduceAdd, Nat.reduceMul, Nat.reduceSub, i_lit, eq_self, and_true, true_and, and_self, not_true_eq_false, not_false_eq_true, or_true, true_or, or_false, false_or, false_and, and_false, reduceCtorEq, Nat.add_left_cancel_iff, Nat.add_zero, Nat.zero_add, cd_all h]; done))
          | ((with_reducible refine e_in ?_ ?_); focus (simp (disch := omega) only [b_all, sV_all, ↓reduceIte, Nat.reduceEqDiff, Nat.reduceLT, Nat.reduceLeDiff, Nat.reduceAdd, Nat.reduceMul, Nat.reduceSub, i_lit, eq_self, and_true, true_and, and_self, not_true_eq_false, not_false_eq_true, or_true, true_or, or_false, false_or, false_and, and_false, reduceCtorEq, Nat.add_left_cancel_iff, Nat.add_zero, Nat.zero_add, cd_all h]; done))
          | fail)
        first | with_reducible rfl | simp (disch := omega) only [b_all, sV_all, ↓reduceIte, Nat.reduceEqDiff, Nat.reduceLT, Nat.reduceLeDiff, Nat.reduceAdd, Nat.reduceMul, Nat.reduceSub, i_lit, eq_self, and_true, true_and, and_self, not_true_eq_false, not_false_eq_true, or_true, true_or, or_false, false_or, false_and, and_false, reduceCtorEq, Nat.add_left_cancel_iff, Nat.add_zero, Nat.zero_add, cd_all h]
      · rw [f2]
        by_cases z : q = j
        · rw [z, if_neg (by omega), U_s, if_pos (by omega)]
        · simp (disch := omega) only [U_ne]
          by_cases y : j ≤ q ∧ q < 5
          · rw [if_pos y, if_pos (by omega)]
          · rw [if_neg y, if_neg (by omega)]
theorem c_start (hk : 5000 ≤ k) (h : St x B C W0 M) {n s : Nat} (hs : s < 5) (hn : n < C 60 0) : ∃ C' M', fX3_startAt x k (C 70 n) (i32 n) (i32 s) (sA B s + 1) M = some ((), M') ∧ St x B C' W0 M' ∧ (∀ b q, b ≠ 100 + 5 * n → b ≠ 101 + 5 * n → C' b q = C b q) ∧ (∀ q, C' (101 + 5 * n) q = if q < 5 then C (3 + 4 * s) q else C (101 + 5 * n) q) ∧ (C' (100 + 5 * n) 0 = n ∧ C' (100 + 5 * n) 1 = s ∧ C' (100 + 5 * n) 2 = 0 ∧ C' (100 + 5 * n) 3 = 0) ∧ (∀ q, zq q → C' (100 + 5 * n) q = 0) ∧ ∀ q, 3 < q → ¬ zq q → C' (100 + 5 * n) q = C (100 + 5 * n) q := by
  have ht := st_T200 h
  have z60 : ∀ (D : Ab) (q v : Nat), U D (100 + 5 * n) q v 60 0 = D 60 0 := fun D q v => U_r _ (by omega) _ _ _
  have z70 : ∀ (D : Ab) (q v : Nat), U D (100 + 5 * n) q v 70 n = D 70 n := fun D q v => U_r _ (by omega) _ _ _
  obtain ⟨k0, -, -, s0⟩ := tk h hn rfl
  have h1 := s0 0 n
  obtain ⟨k1, -, -, s1⟩ := tk h1 (t := n) (a := C 70 n) (by rw [z60]; exact hn) (by rw [z70])
  have h2 := s1 1 s
  obtain ⟨k2, -, -, s2⟩ := tk h2 (t := n) (a := C 70 n) (by rw [z60, z60]; exact hn) (by rw [z70, z70])
  have h3 := s2 2 0
  obtain ⟨k3, -, -, s3⟩ := tk h3 (t := n) (a := C 70 n) (by rw [z60, z60, z60]; exact hn) (by rw [z70, z70, z70])
  have h4 := s3 3 0
  obtain ⟨C', M', e, h', f1, f2, f3, f4⟩ := c_start23 (k := k) (n := n) hs (C 70 n) k 0 _ _ h4 (by rw [z60, z60, z60, z60]; exact hn) (by rw [z70, z70, z70, z70]) (by omega) (by omega)
  refine ⟨C', M', ?_, h', fun b q q1 q2 => ?_, fun q => ?_, ⟨?_, ?_, ?_, ?_⟩, f3, fun q q1 q2 => ?_⟩
  · rw [← e]
    unfold fX3_startAt
    repeat (first
      | (with_reducible refine e_l1 ?_)
      | ((with_reducible refine e_k ?_ (kB h) ?_); focus rfl)
      | ((with_reducible refine e_p ?_ (p_s h) ?_); focus rfl)
      | ((with_reducible refine e_p ?_ (p_t h) ?_); focus rfl)
      | ((with_reducible refine e_p ?_ (p_l h) ?_); focus rfl)
      | ((with_reducible refine e_p ?_ (p_f h) ?_); focus rfl)
      | ((with_reducible apply e_o1); focus (simp (disch := omega) only [b_all, sV_all, ↓reduceIte, Nat.reduceEqDiff, Nat.reduceLT, Nat.reduceLeDiff, Nat.reduceAdd, Nat.reduceMul, Nat.reduceSub, i_lit, eq_self, and_true, true_and, and_self, not_true_eq_false, not_false_eq_true, or_true, true_or, or_false, false_or, false_and, and_false, reduceCtorEq, Nat.add_left_cancel_iff, Nat.add_zero, Nat.zero_add, cd_all h, k0]; first | done | rfl))
      | ((with_reducible refine e_ip ?_ ?_); focus (simp (disch := omega) only [b_all, sV_all, ↓reduceIte, Nat.reduceEqDiff, Nat.reduceLT, Nat.reduceLeDiff, Nat.reduceAdd, Nat.reduceMul, Nat.reduceSub, i_lit, eq_self, and_true, true_and, and_self, not_true_eq_false, not_false_eq_true, or_true, true_or, or_false, false_or, false_and, and_false, reduceCtorEq, Nat.add_left_cancel_iff, Nat.add_zero, Nat.zero_add, cd_all h, k0]; done))
      | ((with_reducible refine e_in ?_ ?_); focus (simp (disch := omega) only [b_all, sV_all, ↓reduceIte, Nat.reduceEqDiff, Nat.reduceLT, Nat.reduceLeDiff, Nat.reduceAdd, Nat.reduceMul, Nat.reduceSub, i_lit, eq_self, and_true, true_and, and_self, not_true_eq_false, not_false_eq_true, or_true, true_or, or_false, false_or, false_and, and_false, reduceCtorEq, Nat.add_left_cancel_iff, Nat.add_zero, Nat.zero_add, cd_all h, k0]; done))
      | fail)
    first | with_reducible rfl | simp (disch := omega) only [b_all, sV_all, ↓reduceIte, Nat.reduceEqDiff, Nat.reduceLT, Nat.reduceLeDiff, Nat.reduceAdd, Nat.reduceMul, Nat.reduceSub, i_lit, eq_self, and_true, true_and, and_self, not_true_eq_false, not_false_eq_true, or_true, true_or, or_false, false_or, false_and, and_false, reduceCtorEq, Nat.add_left_cancel_iff, Nat.add_zero, Nat.zero_add, cd_all h, k0]
  · rw [f1 b q q1 q2]; simp (disch := omega) only [U_ne]
  · rw [f2]
    by_cases z : q < 5
    · rw [if_pos (by omega), if_pos z]; simp (disch := omega) only [U_ne]
    · rw [if_neg (by omega), if_neg z]; simp (disch := omega) only [U_ne]
  · rw [f4 _ (by unfold zq; omega)]; simp (disch := omega) only [U_ne, U_s]
  · rw [f4 _ (by unfold zq; omega)]; simp (disch := omega) only [U_ne, U_s]
  · rw [f4 _ (by unfold zq; omega)]; simp (disch := omega) only [U_ne, U_s]
  · rw [f4 _ (by unfold zq; omega)]; simp (disch := omega) only [U_ne, U_s]
  · rw [f4 q q2]; simp (disch := omega) only [U_ne]
theorem rl_begin (r : Rl C W) {s : Nat} (hs : s < W 0 0) (hn : W 0 5 < C 60 0) {D : Ab} (f1 : ∀ b q, b ≠ 100 + 5 * W 0 5 → b ≠ 101 + 5 * W 0 5 → b ≠ 0 ∨ q ≠ 5 → D b q = C b q) (d5 : D 0 5 = W 0 5 + 1) (f2 : ∀ q, D (101 + 5 * W 0 5) q = if q < 5 then C (3 + 4 * s) q else C (101 + 5 * W 0 5) q) (f0 : D (100 + 5 * W 0 5) 0 = W 0 5 ∧ D (100 + 5 * W 0 5) 1 = s ∧ D (100 + 5 * W 0 5) 2 = 0 ∧ D (100 + 5 * W 0 5) 3 = 0) (f3 : ∀ q, zq q → D (100 + 5 * W 0 5) q = 0) (f4 : ∀ q, 3 < q → ¬ zq q → D (100 + 5 * W 0 5) q = C (100 + 5 * W 0 5) q) : Rl D (wBegin W s) := by
  have hb := r.b
  have q2 := r.q.2.1
  have hs5 : s < 5 := by omega
  obtain ⟨t5, b4, b5, b6, b17, b18, b19⟩ := bn_t W s
  have o0 : ∀ j, j ≠ 5 → j ≠ 27 → wBegin W s 0 j = W 0 j := fun j h1 h2 => bn_o W s (by omega) (by omega) (by omega) (by omega)
  have o1 : ∀ i j, i = 1 ∨ i = 2 ∨ i = 3 ∨ i = 14 ∨ i = 15 ∨ i = 16 ∨ i = 20 → wBegin W s i j = W i j := fun i j hi => bn_o W s (by omega) (by omega) (by omega) (by omega)
  have g : ∀ b q, b < 100 ∨ 1100 ≤ b → b ≠ 0 ∨ q ≠ 5 → D b q = C b q := fun b q h1 h2 => f1 b q (by omega) (by omega) h2
  have z5 : zq 5 := Or.inl rfl
  have z7 : zq 7 := Or.inr (Or.inl rfl)
  refine ⟨r.q.mk' (fun a q => ?_) ⟨?_, ?_, ?_, ?_⟩ (fun s' i hs' hi => ?_), ⟨?_, ?_, ?_, ?_⟩, fun s' hs' => ?_, fun s' hs' => ?_, fun u hu => ?_, fun j q hj hq => ?_, ?_⟩
  · by_cases c0 : a = 100 + 5 * W 0 5
    · rw [c0]
      by_cases q4 : q < 4
      · refine Or.inr (Or.inr ?_)
        rw [cb_t _ _ (by omega)]
        rcases (show q = 0 ∨ q = 1 ∨ q = 2 ∨ q = 3 by omega) with rfl | rfl | rfl | rfl
        · rw [f0.1]; show W 0 5 < 200; omega
        · rw [f0.2.1]; exact hs5
        · rw [f0.2.2.1]; decide
        · rw [f0.2.2.2]; decide
      · by_cases z : zq q
        · by_cases y : cb (100 + 5 * W 0 5) q = 0
          · exact Or.inr (Or.inl y)
          · refine Or.inr (Or.inr ?_)
            rw [f3 q z]; omega
        · exact Or.inl (f4 q (by omega) z)
    · by_cases c1 : a = 101 + 5 * W 0 5
      · rw [c1, f2]
        by_cases z : q < 5
        · refine Or.inr (Or.inr ?_)
          rw [if_pos z, cb_t1 _ _ (by omega)]; exact cbS1 r.q hs5 q
        · exact Or.inl (if_neg z)
      · by_cases c2 : a = 0 ∧ q = 5
        · refine Or.inr (Or.inr ?_)
          rw [c2.1, c2.2, d5]; show W 0 5 + 1 < 201; omega
        · exact Or.inl (f1 a q c0 c1 (by omega))
  · rw [g _ _ (by omega) (by omega)]; exact q2.1
  · rw [d5, g _ _ (by omega) (by omega)]; omega
  · rw [g _ _ (by omega) (by omega)]; exact q2.2.2.1
  · rw [g _ _ (by omega) (by omega)]; exact q2.2.2.2
  · rw [g _ _ (by omega) (by omega), g _ _ (by omega) (by omega)]
    rw [g _ _ (by omega) (by omega)] at hi
    exact r.q.2.2 s' i hs' hi
  · rw [g _ _ (by omega) (by omega), o0 _ (by omega) (by omega)]; exact r.s.1
  · rw [d5, t5]
  · rw [g _ _ (by omega) (by omega), o0 _ (by omega) (by omega)]; exact r.s.2.2.1
  · rw [g _ _ (by omega) (by omega), o0 _ (by omega) (by omega)]; exact r.s.2.2.2
  · exact (r.p hs').fr (g _ _ (by omega) (by omega)) (fun j hj => g _ _ (by omega) (by omega)) (fun j hj => g _ _ (by omega) (by omega)) (o1 _ _ (by omega)) (fun j hj => o1 _ _ (by omega)) (fun j hj => o1 _ _ (by omega))
  · have ra := r.a hs'
    have o8 : ∀ u, u < W 0 5 → wBegin W s 8 (5 * u + s') = W 8 (5 * u + s') := fun u hu => bn_o W s (by omega) (by omega) (by omega) (by omega)
    have c4 : D (2 + 4 * s') 4 = C (2 + 4 * s') 4 := g _ _ (by omega) (by omega)
    have c5 : ∀ i, D (5 + 4 * s') i = C (5 + 4 * s') i := fun i => g _ _ (by omega) (by omega)
    refine ⟨fun i hi => ?_, fun i j hij hj => ?_, fun f => ?_, fun u hu => ?_⟩
    · rw [c4] at hi
      have := ra.1 i hi
      rw [c5, t5, o8 _ this.1]; exact ⟨by omega, this.2⟩
    · rw [c4] at hj
      rw [c5, c5, o8 _ (ra.1 i (by omega)).1, o8 _ (ra.1 j hj).1]
      exact ra.2.1 i j hij hj
    · rw [c4, t5]
      show sm (fun i => f (D (5 + 4 * s') i)) (C (2 + 4 * s') 4) = sm (fun u => if 0 < wBegin W s 8 (5 * u + s') then f u else 0) (W 0 5) + (if 0 < wBegin W s 8 (5 * W 0 5 + s') then f (W 0 5) else 0)
      rw [bn_8 W s hs' (by omega), if_neg (by omega), Nat.add_zero, sm_congr (g := fun i => f (C (5 + 4 * s') i)) _ (fun i _ => by rw [c5]), ra.2.2.1 f]
      exact sm_congr _ (fun u hu => by rw [o8 u hu])
    · rw [t5] at hu
      rw [o0 _ (by omega) (by omega)]
      by_cases c : u = W 0 5
      · subst c; rw [bn_8 W s hs' (by omega)]; omega
      · rw [o8 u (by omega)]; exact ra.2.2.2 u (by omega)
  · rw [t5] at hu
    by_cases c : u = W 0 5
    · subst c
      refine ⟨⟨f0.1, ?_, ?_, ?_, ?_, ?_⟩, fun j hj => ?_, ⟨?_, fun o ho hw => ?_⟩, fun j hj => ?_, ?_, ?_, ?_, ?_, ?_⟩
      · rw [f0.2.1, b4]
      · rw [f0.2.2.1, b5]
      · rw [f0.2.2.2, b6]
      · rw [f3 _ z7, b17]
      · rw [f3 _ (by unfold zq; omega), b19, bp_f (fun z => z rfl)]
      · rw [f2, if_pos hj, bn_7 W s hj]; exact (r.p hs5).2.1 j hj
      · rw [f3 _ z5]
        exact Bt.zero.congr (fun o ho => ⟨False.elim, fun z => z (bn_13 W s ho)⟩)
      · exact absurd (bn_13 W s ho) hw
      · rw [b17] at hj; omega
      · rw [f3 _ (by unfold zq; omega)]
        exact Bt.zero.congr (fun o ho => ⟨False.elim, fun z => z (bn_8 W s ho (by omega))⟩)
      · rw [f3 _ (by unfold zq; omega)]
        exact Bt.zero.congr (fun o ho => ⟨False.elim, fun z => z (bn_8 W s ho (by omega))⟩)
      · rw [f3 _ (by unfold zq; omega)]
        exact Bt.zero.congr (fun o ho => ⟨False.elim, fun z => by rw [bn_8 W s ho (by omega)] at z; omega⟩)
      · rw [f3 _ (by unfold zq; omega)]
        exact Bt.zero.congr (fun o ho => ⟨False.elim, fun z => z (bn_8 W s ho (by omega))⟩)
      · rw [f3 _ (by unfold zq; omega)]
        exact Bt.zero.congr (fun o ho => ⟨False.elim, fun z => z (bn_8 W s ho (by omega))⟩)
    · exact (r.t (by omega)).fr (fun a j h1 h2 => f1 _ _ (by omega) (by omega) (by omega)) (fun i hi => bn_o W s (by omega) (by omega) (by omega) (by omega)) (fun i j hi hj => bn_o W s (by omega) (by omega) (by omega) (by omega)) (fun i j hi hj => bn_o W s (by omega) (by omega) (by omega) (by omega)) (r.b17 (by omega))
  · rw [o0 _ (by omega) (by omega)] at hj
    rw [g _ _ (by omega) (by omega), o1 _ _ (by omega)]; exact r.l j q hj hq
  · rw [o0 _ (by omega) (by omega), r.z]
    exact sm5 (fun s' hs' => (g _ _ (by omega) (by omega)).symm)
theorem rl_add0 (r : Rl C W) {C1 : Ab} (he : W 0 5 = C 60 0) (hn : C 60 0 < 200) (f1 : ∀ a j, a ≠ 60 → a ≠ 70 → a ≠ 72 → a ≠ 73 → a < 100 + 5 * C 60 0 ∨ 104 + 5 * C 60 0 < a → C1 a j = C a j) (f60 : C1 60 0 = C 60 0 + 1 ∧ C1 60 1 = C 60 1) (fz : ∀ a j, 100 + 5 * C 60 0 ≤ a → a ≤ 104 + 5 * C 60 0 → C1 a j = 0) : Rl C1 W := by
  have q2 := r.q.2.1
  have hb := r.b
  have g : ∀ b q, b < 60 ∨ 1100 ≤ b → C1 b q = C b q := fun b q h1 => f1 b q (by omega) (by omega) (by omega) (by omega) (by omega)
  refine ⟨r.q.mk' (fun a q => ?_) ⟨?_, ?_, ?_, ?_⟩ (fun s' i hs' hi => ?_), ⟨?_, ?_, ?_, ?_⟩, fun s' hs' => ?_, fun s' hs' => ?_, fun u hu => ?_, fun j q hj hq => ?_, ?_⟩
  · by_cases c : a < 60 ∨ 100 ≤ a
    · by_cases c1 : 100 + 5 * C 60 0 ≤ a ∧ a ≤ 104 + 5 * C 60 0
      · rw [fz a q c1.1 c1.2]
        by_cases y : cb a q = 0
        · exact Or.inr (Or.inl y)
        · exact Or.inr (Or.inr (by omega))
      · exact Or.inl (f1 a q (by omega) (by omega) (by omega) (by omega) (by omega))
    · refine Or.inr (Or.inl ?_)
      unfold cb
      rw [if_neg (by omega), if_neg (by omega), if_neg (by omega), if_pos (by omega)]
  · rw [g _ _ (by omega)]; exact q2.1
  · rw [g _ _ (by omega), f60.1]; omega
  · rw [f60.1]; omega
  · rw [f60.2]; exact q2.2.2.2
  · rw [g _ _ (by omega), f60.1]
    rw [g _ _ (by omega)] at hi
    have := r.q.2.2 s' i hs' hi
    omega
  · rw [g _ _ (by omega)]; exact r.s.1
  · rw [g _ _ (by omega)]; exact r.s.2.1
  · rw [g _ _ (by omega)]; exact r.s.2.2.1
  · rw [f60.2]; exact r.s.2.2.2
  · exact (r.p hs').fr (g _ _ (by omega)) (fun j hj => g _ _ (by omega)) (fun j hj => g _ _ (by omega)) rfl (fun j hj => rfl) (fun j hj => rfl)
  · exact (r.a hs').fr (g _ _ (by omega)) (fun j => g _ _ (by omega)) rfl rfl (fun j => rfl)
  · exact (r.t hu).fr (fun a j h1 h2 => f1 _ _ (by omega) (by omega) (by omega) (by omega) (by omega)) (fun i hi => rfl) (fun i j hi hj => rfl) (fun i j hi hj => rfl) (r.b17 hu)
  · rw [g _ _ (by omega)]; exact r.l j q hj hq
  · rw [r.z]
    exact sm5 (fun s' hs' => (g _ _ (by omega)).symm)
theorem c_begin64 (hk : 5000 ≤ k) (h : St x B C W0 M) (r : Rl C W) {s : Nat} (hs : s < W 0 0) (hn : W 0 5 < C 60 0) : ∃ C' M', fX4_begin_64 x k B (i32 s) M = some (.inr (i32 (W 0 5)), M') ∧ St x B C' W0 M' ∧ Rl C' (wBegin W s) ∧ (∀ a q, 60 ≤ a → a < 80 → C' a q = C a q) := by
  have hb := r.b
  have e5 := r.s.2.1
  have hs5 : s < 5 := by omega
  have g0 := c_get0 (k := k) h r.q hn
  obtain ⟨C1, M1, q1, h1, f1, f2, f0, f3, f4⟩ := c_start (k := k) hk h hs5 hn
  have h2 := suB h1 5 (W 0 5 + 1)
  have e5' : C1 0 5 = W 0 5 := by rw [f1 _ _ (by omega) (by omega)]; exact e5
  refine ⟨_, _, ?_, h2, rl_begin r hs hn (fun b q q1 q2 q3 => ?_) ?_ (fun q => ?_) ⟨?_, ?_, ?_, ?_⟩ (fun q hq => ?_) (fun q q1 q2 => ?_), fun a q q1 q2 => ?_⟩
  · have ip : i32 (W 0 5 + 1) - i32 1 = i32 (W 0 5) := by rw [i_sub (by omega)]; congr 1
    unfold fX4_begin_64
    repeat (first
      | (with_reducible refine e_l1 ?_)
      | ((with_reducible refine e_k ?_ (kB h) ?_); focus rfl)
      | ((with_reducible refine e_p ?_ (p_s h) ?_); focus rfl)
      | ((with_reducible refine e_p ?_ (p_t h) ?_); focus rfl)
      | ((with_reducible refine e_p ?_ (p_l h) ?_); focus rfl)
      | ((with_reducible refine e_p ?_ (p_f h) ?_); focus rfl)
      | ((with_reducible refine e_k ?_ (kB h1) ?_); focus rfl)
      | ((with_reducible refine e_p ?_ (p_s h1) ?_); focus rfl)
      | ((with_reducible refine e_p ?_ (p_t h1) ?_); focus rfl)
      | ((with_reducible refine e_p ?_ (p_l h1) ?_); focus rfl)
      | ((with_reducible refine e_p ?_ (p_f h1) ?_); focus rfl)
      | ((with_reducible refine e_o2 ?_ g0 ?_); focus (first | with_reducible rfl | (simp (disch := omega) only [b_all, sV_all, ↓reduceIte, Nat.reduceEqDiff, Nat.reduceLT, Nat.reduceLeDiff, Nat.reduceAdd, Nat.reduceMul, Nat.reduceSub, i_lit, eq_self, and_true, true_and, and_self, not_true_eq_false, not_false_eq_true, or_true, true_or, or_false, false_or, false_and, and_false, reduceCtorEq, Nat.add_left_cancel_iff, Nat.add_zero, Nat.zero_add, cd_all h, cd_all h1, e5, e5', ip]; done)))
      | ((with_reducible refine e_o2 ?_ q1 ?_); focus (first | with_reducible rfl | (simp (disch := omega) only [b_all, sV_all, ↓reduceIte, Nat.reduceEqDiff, Nat.reduceLT, Nat.reduceLeDiff, Nat.reduceAdd, Nat.reduceMul, Nat.reduceSub, i_lit, eq_self, and_true, true_and, and_self, not_true_eq_false, not_false_eq_true, or_true, true_or, or_false, false_or, false_and, and_false, reduceCtorEq, Nat.add_left_cancel_iff, Nat.add_zero, Nat.zero_add, cd_all h, cd_all h1, e5, e5', ip]; done)))
      | ((with_reducible refine e_T ?_ g0 ?_); focus (first | with_reducible rfl | (simp (disch := omega) only [b_all, sV_all, ↓reduceIte, Nat.reduceEqDiff, Nat.reduceLT, Nat.reduceLeDiff, Nat.reduceAdd, Nat.reduceMul, Nat.reduceSub, i_lit, eq_self, and_true, true_and, and_self, not_true_eq_false, not_false_eq_true, or_true, true_or, or_false, false_or, false_and, and_false, reduceCtorEq, Nat.add_left_cancel_iff, Nat.add_zero, Nat.zero_add, cd_all h, cd_all h1, e5, e5', ip]; done)))
      | ((with_reducible refine e_X ?_ g0 ?_); focus (first | with_reducible rfl | (simp (disch := omega) only [b_all, sV_all, ↓reduceIte, Nat.reduceEqDiff, Nat.reduceLT, Nat.reduceLeDiff, Nat.reduceAdd, Nat.reduceMul, Nat.reduceSub, i_lit, eq_self, and_true, true_and, and_self, not_true_eq_false, not_false_eq_true, or_true, true_or, or_false, false_or, false_and, and_false, reduceCtorEq, Nat.add_left_cancel_iff, Nat.add_zero, Nat.zero_add, cd_all h, cd_all h1, e5, e5', ip]; done)))
      | ((with_reducible refine e_T ?_ q1 ?_); focus (first | with_reducible rfl | (simp (disch := omega) only [b_all, sV_all, ↓reduceIte, Nat.reduceEqDiff, Nat.reduceLT, Nat.reduceLeDiff, Nat.reduceAdd, Nat.reduceMul, Nat.reduceSub, i_lit, eq_self, and_true, true_and, and_self, not_true_eq_false, not_false_eq_true, or_true, true_or, or_false, false_or, false_and, and_false, reduceCtorEq, Nat.add_left_cancel_iff, Nat.add_zero, Nat.zero_add, cd_all h, cd_all h1, e5, e5', ip]; done)))
      | ((with_reducible refine e_X ?_ q1 ?_); focus (first | with_reducible rfl | (simp (disch := omega) only [b_all, sV_all, ↓reduceIte, Nat.reduceEqDiff, Nat.reduceLT, Nat.reduceLeDiff, Nat.reduceAdd, Nat.reduceMul, Nat.reduceSub, i_lit, eq_self, and_true, true_and, and_self, not_true_eq_false, not_false_eq_true, or_true, true_or, or_false, false_or, false_and, and_false, reduceCtorEq, Nat.add_left_cancel_iff, Nat.add_zero, Nat.zero_add, cd_all h, cd_all h1, e5, e5', ip]; done)))
      | ((with_reducible apply e_o1); focus (simp (disch := omega) only [b_all, sV_all, ↓reduceIte, Nat.reduceEqDiff, Nat.reduceLT, Nat.reduceLeDiff, Nat.reduceAdd, Nat.reduceMul, Nat.reduceSub, i_lit, eq_self, and_true, true_and, and_self, not_true_eq_false, not_false_eq_true, or_true, true_or, or_false, false_or, false_and, and_false, reduceCtorEq, Nat.add_left_cancel_iff, Nat.add_zero, Nat.zero_add, cd_all h, cd_all h1, e5, e5', ip]; first | done | rfl))
      | ((with_reducible refine e_ip ?_ ?_); focus (simp (disch := omega) only [b_all, sV_all, ↓reduceIte, Nat.reduceEqDiff, Nat.reduceLT, Nat.reduceLeDiff, Nat.reduceAdd, Nat.reduceMul, Nat.reduceSub, i_lit, eq_self, and_true, true_and, and_self, not_true_eq_false, not_false_eq_true, or_true, true_or, or_false, false_or, false_and, and_false, reduceCtorEq, Nat.add_left_cancel_iff, Nat.add_zero, Nat.zero_add, cd_all h, cd_all h1, e5, e5', ip]; done))
      | ((with_reducible refine e_in ?_ ?_); focus (simp (disch := omega) only [b_all, sV_all, ↓reduceIte, Nat.reduceEqDiff, Nat.reduceLT, Nat.reduceLeDiff, Nat.reduceAdd, Nat.reduceMul, Nat.reduceSub, i_lit, eq_self, and_true, true_and, and_self, not_true_eq_false, not_false_eq_true, or_true, true_or, or_false, false_or, false_and, and_false, reduceCtorEq, Nat.add_left_cancel_iff, Nat.add_zero, Nat.zero_add, cd_all h, cd_all h1, e5, e5', ip]; done))
      | fail)
    first | with_reducible rfl | simp (disch := omega) only [b_all, sV_all, ↓reduceIte, Nat.reduceEqDiff, Nat.reduceLT, Nat.reduceLeDiff, Nat.reduceAdd, Nat.reduceMul, Nat.reduceSub, i_lit, eq_self, and_true, true_and, and_self, not_true_eq_false, not_false_eq_true, or_true, true_or, or_false, false_or, false_and, and_false, reduceCtorEq, Nat.add_left_cancel_iff, Nat.add_zero, Nat.zero_add, cd_all h, cd_all h1, e5, e5', ip]
  · rw [U_ne _ (by omega)]; exact f1 b q q1 q2
  · rw [U_s]
  · rw [U_ne _ (by omega)]; exact f2 q
  · rw [U_ne _ (by omega)]; exact f0.1
  · rw [U_ne _ (by omega)]; exact f0.2.1
  · rw [U_ne _ (by omega)]; exact f0.2.2.1
  · rw [U_ne _ (by omega)]; exact f0.2.2.2
  · rw [U_ne _ (by omega)]; exact f3 q hq
  · rw [U_ne _ (by omega)]; exact f4 q q1 q2
  · rw [U_ne _ (by omega)]; exact f1 a q (by omega) (by omega)
theorem bn_27 (W : Ab) (s : Nat) : wBegin W s 0 27 = 0 := by
  rw [bn_r, if_neg (by omega), if_neg (by omega)]
  unfold bgA
  simp (disch := omega) only [U_ne]
  exact t00_27 W
theorem sim_begin (hk : 5000 ≤ k) (h : St x B C W M) (r : Rl C W) (i : Inv W) (ry : Ry x C) {s : Nat} (hs' : s < 4294967296) : Sim x B 2 (fX4_begin x k B (i32 s)) (fX5_begin x k (B + 25) (i32 s)) C W M := by
  have e4 := r.s.1
  have e5 := r.s.2.1
  have b := i.1
  have hb := b.1
  have rm := ry.rx.rm
  have hq := r.q.2.1
  by_cases c1 : s < W 0 0
  · have q1 := c_site1 (k := k) h r.q (a := s) (by omega)
    have hs5 : s < 5 := by omega
    have ep := (r.p hs5).1
    by_cases c2 : W 2 s = 0
    · rw [bp_t c2] at ep
      by_cases c3 : W 0 5 < 200
      · have q2 := c_needS1 (x := x) (k := k) (M := M)
        have q3 := c_size0 (k := k) h
        by_cases c4 : W 0 5 = C 60 0
        · obtain ⟨ry1, ry2⟩ := ry
          have hx := h.1
          unfold pX at ry1
          unfold pZ at ry2
          obtain ⟨M1, q4, h1, x1, t5, v0⟩ := c_newT (k := k) h (by omega) (by omega)
          obtain ⟨C2, M2, q5, h2, f1, f60, fz, ⟨f72, f721⟩, f73, f731⟩ := c_add0 (k := k) h1 (by simp (disch := omega) only [U_ne]; omega) t5 (fun j hj => by
            simp (disch := omega) only [U_ne] at hj ⊢
            have := (st_T5 h hj).1.2
            omega) v0 (by simp (disch := omega) only [U_ne, U_s]; omega) (by simp (disch := omega) only [U_ne, U_s]; omega)
          simp (disch := omega) only [U_ne, U_s] at f60 fz f72 f73 f731
          have f1' : ∀ a j, a ≠ 60 → a ≠ 70 → a ≠ 72 → a ≠ 73 → a < 100 + 5 * C 60 0 ∨ 104 + 5 * C 60 0 < a → C2 a j = C a j := fun a j n1 n2 n3 n4 n5 => by
            rw [f1 a j n1 n2 n3 n4 (by simp (disch := omega) only [U_ne]; exact n5)]
            simp (disch := omega) only [U_ne]
          have r2 := rl_add0 r c4 (by omega) f1' f60 fz
          obtain ⟨C3, M3, q6, h3, r3, f6⟩ := c_begin64 (k := k) hk h2 r2 c1 (by rw [f60.1]; omega)
          refine Or.inr ⟨i32 (W 0 5), C3, wBegin W s, M3, ?_, h3, r3, inv_begin i c1 c3, bn_27 W s, ⟨?_, ?_⟩, fun C1 M1 h1 => m_begin_ok (k := k) hk h1 b c1 c2 c3⟩
          · unfold fX4_begin
            have rr1 : C 73 0 + 1 ≤ xC x := by omega
            have rr2 : C 73 1 + 16 ≤ xL x := by omega
            repeat (first
              | (with_reducible refine e_l1 ?_)
              | ((with_reducible refine e_k ?_ (kB h) ?_); focus rfl)
              | ((with_reducible refine e_p ?_ (p_s h) ?_); focus rfl)
              | ((with_reducible refine e_p ?_ (p_t h) ?_); focus rfl)
              | ((with_reducible refine e_p ?_ (p_l h) ?_); focus rfl)
              | ((with_reducible refine e_p ?_ (p_f h) ?_); focus rfl)
              | ((with_reducible refine e_k ?_ (kB h1) ?_); focus rfl)
              | ((with_reducible refine e_p ?_ (p_s h1) ?_); focus rfl)
              | ((with_reducible refine e_p ?_ (p_t h1) ?_); focus rfl)
              | ((with_reducible refine e_p ?_ (p_l h1) ?_); focus rfl)
              | ((with_reducible refine e_p ?_ (p_f h1) ?_); focus rfl)
              | ((with_reducible refine e_o2 ?_ q1 ?_); focus (first | with_reducible rfl | (simp (disch := omega) only [b_all, sV_all, ↓reduceIte, Nat.reduceEqDiff, Nat.reduceLT, Nat.reduceLeDiff, Nat.reduceAdd, Nat.reduceMul, Nat.reduceSub, i_lit, eq_self, and_true, true_and, and_self, not_true_eq_false, not_false_eq_true, or_true, true_or, or_false, false_or, false_and, and_false, reduceCtorEq, Nat.add_left_cancel_iff, Nat.add_zero, Nat.zero_add, cd_all h, cd_all h1, ep, e5]; done)))
              | ((with_reducible refine e_o2 ?_ q2 ?_); focus (first | with_reducible rfl | (simp (disch := omega) only [b_all, sV_all, ↓reduceIte, Nat.reduceEqDiff, Nat.reduceLT, Nat.reduceLeDiff, Nat.reduceAdd, Nat.reduceMul, Nat.reduceSub, i_lit, eq_self, and_true, true_and, and_self, not_true_eq_false, not_false_eq_true, or_true, true_or, or_false, false_or, false_and, and_false, reduceCtorEq, Nat.add_left_cancel_iff, Nat.add_zero, Nat.zero_add, cd_all h, cd_all h1, ep, e5]; done)))
              | ((with_reducible refine e_o2 ?_ q3 ?_); focus (first | with_reducible rfl | (simp (disch := omega) only [b_all, sV_all, ↓reduceIte, Nat.reduceEqDiff, Nat.reduceLT, Nat.reduceLeDiff, Nat.reduceAdd, Nat.reduceMul, Nat.reduceSub, i_lit, eq_self, and_true, true_and, and_self, not_true_eq_false, not_false_eq_true, or_true, true_or, or_false, false_or, false_and, and_false, reduceCtorEq, Nat.add_left_cancel_iff, Nat.add_zero, Nat.zero_add, cd_all h, cd_all h1, ep, e5]; done)))
              | ((with_reducible refine e_o2 ?_ q4 ?_); focus (first | with_reducible rfl | (simp (disch := omega) only [b_all, sV_all, ↓reduceIte, Nat.reduceEqDiff, Nat.reduceLT, Nat.reduceLeDiff, Nat.reduceAdd, Nat.reduceMul, Nat.reduceSub, i_lit, eq_self, and_true, true_and, and_self, not_true_eq_false, not_false_eq_true, or_true, true_or, or_false, false_or, false_and, and_false, reduceCtorEq, Nat.add_left_cancel_iff, Nat.add_zero, Nat.zero_add, cd_all h, cd_all h1, ep, e5]; done)))
              | ((with_reducible refine e_o2 ?_ q5 ?_); focus (first | with_reducible rfl | (simp (disch := omega) only [b_all, sV_all, ↓reduceIte, Nat.reduceEqDiff, Nat.reduceLT, Nat.reduceLeDiff, Nat.reduceAdd, Nat.reduceMul, Nat.reduceSub, i_lit, eq_self, and_true, true_and, and_self, not_true_eq_false, not_false_eq_true, or_true, true_or, or_false, false_or, false_and, and_false, reduceCtorEq, Nat.add_left_cancel_iff, Nat.add_zero, Nat.zero_add, cd_all h, cd_all h1, ep, e5]; done)))
              | ((with_reducible refine e_o2 ?_ q6 ?_); focus (first | with_reducible rfl | (simp (disch := omega) only [b_all, sV_all, ↓reduceIte, Nat.reduceEqDiff, Nat.reduceLT, Nat.reduceLeDiff, Nat.reduceAdd, Nat.reduceMul, Nat.reduceSub, i_lit, eq_self, and_true, true_and, and_self, not_true_eq_false, not_false_eq_true, or_true, true_or, or_false, false_or, false_and, and_false, reduceCtorEq, Nat.add_left_cancel_iff, Nat.add_zero, Nat.zero_add, cd_all h, cd_all h1, ep, e5]; done)))
              | ((with_reducible refine e_T ?_ q1 ?_); focus (first | with_reducible rfl | (simp (disch := omega) only [b_all, sV_all, ↓reduceIte, Nat.reduceEqDiff, Nat.reduceLT, Nat.reduceLeDiff, Nat.reduceAdd, Nat.reduceMul, Nat.reduceSub, i_lit, eq_self, and_true, true_and, and_self, not_true_eq_false, not_false_eq_true, or_true, true_or, or_false, false_or, false_and, and_false, reduceCtorEq, Nat.add_left_cancel_iff, Nat.add_zero, Nat.zero_add, cd_all h, cd_all h1, ep, e5]; done)))
              | ((with_reducible refine e_X ?_ q1 ?_); focus (first | with_reducible rfl | (simp (disch := omega) only [b_all, sV_all, ↓reduceIte, Nat.reduceEqDiff, Nat.reduceLT, Nat.reduceLeDiff, Nat.reduceAdd, Nat.reduceMul, Nat.reduceSub, i_lit, eq_self, and_true, true_and, and_self, not_true_eq_false, not_false_eq_true, or_true, true_or, or_false, false_or, false_and, and_false, reduceCtorEq, Nat.add_left_cancel_iff, Nat.add_zero, Nat.zero_add, cd_all h, cd_all h1, ep, e5]; done)))
              | ((with_reducible refine e_T ?_ q2 ?_); focus (first | with_reducible rfl | (simp (disch := omega) only [b_all, sV_all, ↓reduceIte, Nat.reduceEqDiff, Nat.reduceLT, Nat.reduceLeDiff, Nat.reduceAdd, Nat.reduceMul, Nat.reduceSub, i_lit, eq_self, and_true, true_and, and_self, not_true_eq_false, not_false_eq_true, or_true, true_or, or_false, false_or, false_and, and_false, reduceCtorEq, Nat.add_left_cancel_iff, Nat.add_zero, Nat.zero_add, cd_all h, cd_all h1, ep, e5]; done)))
              | ((with_reducible refine e_X ?_ q2 ?_); focus (first | with_reducible rfl | (simp (disch := omega) only [b_all, sV_all, ↓reduceIte, Nat.reduceEqDiff, Nat.reduceLT, Nat.reduceLeDiff, Nat.reduceAdd, Nat.reduceMul, Nat.reduceSub, i_lit, eq_self, and_true, true_and, and_self, not_true_eq_false, not_false_eq_true, or_true, true_or, or_false, false_or, false_and, and_false, reduceCtorEq, Nat.add_left_cancel_iff, Nat.add_zero, Nat.zero_add, cd_all h, cd_all h1, ep, e5]; done)))
              | ((with_reducible refine e_T ?_ q3 ?_); focus (first | with_reducible rfl | (simp (disch := omega) only [b_all, sV_all, ↓reduceIte, Nat.reduceEqDiff, Nat.reduceLT, Nat.reduceLeDiff, Nat.reduceAdd, Nat.reduceMul, Nat.reduceSub, i_lit, eq_self, and_true, true_and, and_self, not_true_eq_false, not_false_eq_true, or_true, true_or, or_false, false_or, false_and, and_false, reduceCtorEq, Nat.add_left_cancel_iff, Nat.add_zero, Nat.zero_add, cd_all h, cd_all h1, ep, e5]; done)))
              | ((with_reducible refine e_X ?_ q3 ?_); focus (first | with_reducible rfl | (simp (disch := omega) only [b_all, sV_all, ↓reduceIte, Nat.reduceEqDiff, Nat.reduceLT, Nat.reduceLeDiff, Nat.reduceAdd, Nat.reduceMul, Nat.reduceSub, i_lit, eq_self, and_true, true_and, and_self, not_true_eq_false, not_false_eq_true, or_true, true_or, or_false, false_or, false_and, and_false, reduceCtorEq, Nat.add_left_cancel_iff, Nat.add_zero, Nat.zero_add, cd_all h, cd_all h1, ep, e5]; done)))
              | ((with_reducible refine e_T ?_ q4 ?_); focus (first | with_reducible rfl | (simp (disch := omega) only [b_all, sV_all, ↓reduceIte, Nat.reduceEqDiff, Nat.reduceLT, Nat.reduceLeDiff, Nat.reduceAdd, Nat.reduceMul, Nat.reduceSub, i_lit, eq_self, and_true, true_and, and_self, not_true_eq_false, not_false_eq_true, or_true, true_or, or_false, false_or, false_and, and_false, reduceCtorEq, Nat.add_left_cancel_iff, Nat.add_zero, Nat.zero_add, cd_all h, cd_all h1, ep, e5]; done)))
              | ((with_reducible refine e_X ?_ q4 ?_); focus (first | with_reducible rfl | (simp (disch := omega) only [b_all, sV_all, ↓reduceIte, Nat.reduceEqDiff, Nat.reduceLT, Nat.reduceLeDiff, Nat.reduceAdd, Nat.reduceMul, Nat.reduceSub, i_lit, eq_self, and_true, true_and, and_self, not_true_eq_false, not_false_eq_true, or_true, true_or, or_false, false_or, false_and, and_false, reduceCtorEq, Nat.add_left_cancel_iff, Nat.add_zero, Nat.zero_add, cd_all h, cd_all h1, ep, e5]; done)))
              | ((with_reducible refine e_T ?_ q5 ?_); focus (first | with_reducible rfl | (simp (disch := omega) only [b_all, sV_all, ↓reduceIte, Nat.reduceEqDiff, Nat.reduceLT, Nat.reduceLeDiff, Nat.reduceAdd, Nat.reduceMul, Nat.reduceSub, i_lit, eq_self, and_true, true_and, and_self, not_true_eq_false, not_false_eq_true, or_true, true_or, or_false, false_or, false_and, and_false, reduceCtorEq, Nat.add_left_cancel_iff, Nat.add_zero, Nat.zero_add, cd_all h, cd_all h1, ep, e5]; done)))
              | ((with_reducible refine e_X ?_ q5 ?_); focus (first | with_reducible rfl | (simp (disch := omega) only [b_all, sV_all, ↓reduceIte, Nat.reduceEqDiff, Nat.reduceLT, Nat.reduceLeDiff, Nat.reduceAdd, Nat.reduceMul, Nat.reduceSub, i_lit, eq_self, and_true, true_and, and_self, not_true_eq_false, not_false_eq_true, or_true, true_or, or_false, false_or, false_and, and_false, reduceCtorEq, Nat.add_left_cancel_iff, Nat.add_zero, Nat.zero_add, cd_all h, cd_all h1, ep, e5]; done)))
              | ((with_reducible refine e_T ?_ q6 ?_); focus (first | with_reducible rfl | (simp (disch := omega) only [b_all, sV_all, ↓reduceIte, Nat.reduceEqDiff, Nat.reduceLT, Nat.reduceLeDiff, Nat.reduceAdd, Nat.reduceMul, Nat.reduceSub, i_lit, eq_self, and_true, true_and, and_self, not_true_eq_false, not_false_eq_true, or_true, true_or, or_false, false_or, false_and, and_false, reduceCtorEq, Nat.add_left_cancel_iff, Nat.add_zero, Nat.zero_add, cd_all h, cd_all h1, ep, e5]; done)))
              | ((with_reducible refine e_X ?_ q6 ?_); focus (first | with_reducible rfl | (simp (disch := omega) only [b_all, sV_all, ↓reduceIte, Nat.reduceEqDiff, Nat.reduceLT, Nat.reduceLeDiff, Nat.reduceAdd, Nat.reduceMul, Nat.reduceSub, i_lit, eq_self, and_true, true_and, and_self, not_true_eq_false, not_false_eq_true, or_true, true_or, or_false, false_or, false_and, and_false, reduceCtorEq, Nat.add_left_cancel_iff, Nat.add_zero, Nat.zero_add, cd_all h, cd_all h1, ep, e5]; done)))
              | ((with_reducible apply e_o1); focus (simp (disch := omega) only [b_all, sV_all, ↓reduceIte, Nat.reduceEqDiff, Nat.reduceLT, Nat.reduceLeDiff, Nat.reduceAdd, Nat.reduceMul, Nat.reduceSub, i_lit, eq_self, and_true, true_and, and_self, not_true_eq_false, not_false_eq_true, or_true, true_or, or_false, false_or, false_and, and_false, reduceCtorEq, Nat.add_left_cancel_iff, Nat.add_zero, Nat.zero_add, cd_all h, cd_all h1, ep, e5]; first | done | rfl))
              | ((with_reducible refine e_ip ?_ ?_); focus (simp (disch := omega) only [b_all, sV_all, ↓reduceIte, Nat.reduceEqDiff, Nat.reduceLT, Nat.reduceLeDiff, Nat.reduceAdd, Nat.reduceMul, Nat.reduceSub, i_lit, eq_self, and_true, true_and, and_self, not_true_eq_false, not_false_eq_true, or_true, true_or, or_false, false_or, false_and, and_false, reduceCtorEq, Nat.add_left_cancel_iff, Nat.add_zero, Nat.zero_add, cd_all h, cd_all h1, ep, e5]; done))
              | ((with_reducible refine e_in ?_ ?_); focus (simp (disch := omega) only [b_all, sV_all, ↓reduceIte, Nat.reduceEqDiff, Nat.reduceLT, Nat.reduceLeDiff, Nat.reduceAdd, Nat.reduceMul, Nat.reduceSub, i_lit, eq_self, and_true, true_and, and_self, not_true_eq_false, not_false_eq_true, or_true, true_or, or_false, false_or, false_and, and_false, reduceCtorEq, Nat.add_left_cancel_iff, Nat.add_zero, Nat.zero_add, cd_all h, cd_all h1, ep, e5]; done))
              | unfold fX4_begin_31
              | unfold fX4_begin_32
              | fail)
            exact q6
          · unfold pX; rw [f6 _ _ (by omega) (by omega), f6 _ _ (by omega) (by omega), f60.2]; omega
          · unfold pZ; rw [f6 _ _ (by omega) (by omega), f6 _ _ (by omega) (by omega), f6 _ _ (by omega) (by omega), f6 _ _ (by omega) (by omega), f60.2, f72]; omega
        · obtain ⟨C3, M3, q6, h3, r3, f6⟩ := c_begin64 (k := k) hk h r c1 (by omega)
          refine simK (v := i32 (W 0 5)) (W' := wBegin W s) ?_ h3 r3 (inv_begin i c1 c3) (bn_27 W s) (Kp.low f6) (fun C1 M1 h1 => m_begin_ok (k := k) hk h1 b c1 c2 c3)
          unfold fX4_begin
          repeat (first
            | (with_reducible refine e_l1 ?_)
            | ((with_reducible refine e_k ?_ (kB h) ?_); focus rfl)
            | ((with_reducible refine e_p ?_ (p_s h) ?_); focus rfl)
            | ((with_reducible refine e_p ?_ (p_t h) ?_); focus rfl)
            | ((with_reducible refine e_p ?_ (p_l h) ?_); focus rfl)
            | ((with_reducible refine e_p ?_ (p_f h) ?_); focus rfl)
            | ((with_reducible refine e_o2 ?_ q1 ?_); focus (first | with_reducible rfl | (simp (disch := omega) only [b_all, sV_all, ↓reduceIte, Nat.reduceEqDiff, Nat.reduceLT, Nat.reduceLeDiff, Nat.reduceAdd, Nat.reduceMul, Nat.reduceSub, i_lit, eq_self, and_true, true_and, and_self, not_true_eq_false, not_false_eq_true, or_true, true_or, or_false, false_or, false_and, and_false, reduceCtorEq, Nat.add_left_cancel_iff, Nat.add_zero, Nat.zero_add, cd_all h, ep, e5]; done)))
            | ((with_reducible refine e_o2 ?_ q2 ?_); focus (first | with_reducible rfl | (simp (disch := omega) only [b_all, sV_all, ↓reduceIte, Nat.reduceEqDiff, Nat.reduceLT, Nat.reduceLeDiff, Nat.reduceAdd, Nat.reduceMul, Nat.reduceSub, i_lit, eq_self, and_true, true_and, and_self, not_true_eq_false, not_false_eq_true, or_true, true_or, or_false, false_or, false_and, and_false, reduceCtorEq, Nat.add_left_cancel_iff, Nat.add_zero, Nat.zero_add, cd_all h, ep, e5]; done)))
            | ((with_reducible refine e_o2 ?_ q3 ?_); focus (first | with_reducible rfl | (simp (disch := omega) only [b_all, sV_all, ↓reduceIte, Nat.reduceEqDiff, Nat.reduceLT, Nat.reduceLeDiff, Nat.reduceAdd, Nat.reduceMul, Nat.reduceSub, i_lit, eq_self, and_true, true_and, and_self, not_true_eq_false, not_false_eq_true, or_true, true_or, or_false, false_or, false_and, and_false, reduceCtorEq, Nat.add_left_cancel_iff, Nat.add_zero, Nat.zero_add, cd_all h, ep, e5]; done)))
            | ((with_reducible refine e_o2 ?_ q6 ?_); focus (first | with_reducible rfl | (simp (disch := omega) only [b_all, sV_all, ↓reduceIte, Nat.reduceEqDiff, Nat.reduceLT, Nat.reduceLeDiff, Nat.reduceAdd, Nat.reduceMul, Nat.reduceSub, i_lit, eq_self, and_true, true_and, and_self, not_true_eq_false, not_false_eq_true, or_true, true_or, or_false, false_or, false_and, and_false, reduceCtorEq, Nat.add_left_cancel_iff, Nat.add_zero, Nat.zero_add, cd_all h, ep, e5]; done)))
            | ((with_reducible refine e_T ?_ q1 ?_); focus (first | with_reducible rfl | (simp (disch := omega) only [b_all, sV_all, ↓reduceIte, Nat.reduceEqDiff, Nat.reduceLT, Nat.reduceLeDiff, Nat.reduceAdd, Nat.reduceMul, Nat.reduceSub, i_lit, eq_self, and_true, true_and, and_self, not_true_eq_false, not_false_eq_true, or_true, true_or, or_false, false_or, false_and, and_false, reduceCtorEq, Nat.add_left_cancel_iff, Nat.add_zero, Nat.zero_add, cd_all h, ep, e5]; done)))
            | ((with_reducible refine e_X ?_ q1 ?_); focus (first | with_reducible rfl | (simp (disch := omega) only [b_all, sV_all, ↓reduceIte, Nat.reduceEqDiff, Nat.reduceLT, Nat.reduceLeDiff, Nat.reduceAdd, Nat.reduceMul, Nat.reduceSub, i_lit, eq_self, and_true, true_and, and_self, not_true_eq_false, not_false_eq_true, or_true, true_or, or_false, false_or, false_and, and_false, reduceCtorEq, Nat.add_left_cancel_iff, Nat.add_zero, Nat.zero_add, cd_all h, ep, e5]; done)))
            | ((with_reducible refine e_T ?_ q2 ?_); focus (first | with_reducible rfl | (simp (disch := omega) only [b_all, sV_all, ↓reduceIte, Nat.reduceEqDiff, Nat.reduceLT, Nat.reduceLeDiff, Nat.reduceAdd, Nat.reduceMul, Nat.reduceSub, i_lit, eq_self, and_true, true_and, and_self, not_true_eq_false, not_false_eq_true, or_true, true_or, or_false, false_or, false_and, and_false, reduceCtorEq, Nat.add_left_cancel_iff, Nat.add_zero, Nat.zero_add, cd_all h, ep, e5]; done)))
            | ((with_reducible refine e_X ?_ q2 ?_); focus (first | with_reducible rfl | (simp (disch := omega) only [b_all, sV_all, ↓reduceIte, Nat.reduceEqDiff, Nat.reduceLT, Nat.reduceLeDiff, Nat.reduceAdd, Nat.reduceMul, Nat.reduceSub, i_lit, eq_self, and_true, true_and, and_self, not_true_eq_false, not_false_eq_true, or_true, true_or, or_false, false_or, false_and, and_false, reduceCtorEq, Nat.add_left_cancel_iff, Nat.add_zero, Nat.zero_add, cd_all h, ep, e5]; done)))
            | ((with_reducible refine e_T ?_ q3 ?_); focus (first | with_reducible rfl | (simp (disch := omega) only [b_all, sV_all, ↓reduceIte, Nat.reduceEqDiff, Nat.reduceLT, Nat.reduceLeDiff, Nat.reduceAdd, Nat.reduceMul, Nat.reduceSub, i_lit, eq_self, and_true, true_and, and_self, not_true_eq_false, not_false_eq_true, or_true, true_or, or_false, false_or, false_and, and_false, reduceCtorEq, Nat.add_left_cancel_iff, Nat.add_zero, Nat.zero_add, cd_all h, ep, e5]; done)))
            | ((with_reducible refine e_X ?_ q3 ?_); focus (first | with_reducible rfl | (simp (disch := omega) only [b_all, sV_all, ↓reduceIte, Nat.reduceEqDiff, Nat.reduceLT, Nat.reduceLeDiff, Nat.reduceAdd, Nat.reduceMul, Nat.reduceSub, i_lit, eq_self, and_true, true_and, and_self, not_true_eq_false, not_false_eq_true, or_true, true_or, or_false, false_or, false_and, and_false, reduceCtorEq, Nat.add_left_cancel_iff, Nat.add_zero, Nat.zero_add, cd_all h, ep, e5]; done)))
            | ((with_reducible refine e_T ?_ q6 ?_); focus (first | with_reducible rfl | (simp (disch := omega) only [b_all, sV_all, ↓reduceIte, Nat.reduceEqDiff, Nat.reduceLT, Nat.reduceLeDiff, Nat.reduceAdd, Nat.reduceMul, Nat.reduceSub, i_lit, eq_self, and_true, true_and, and_self, not_true_eq_false, not_false_eq_true, or_true, true_or, or_false, false_or, false_and, and_false, reduceCtorEq, Nat.add_left_cancel_iff, Nat.add_zero, Nat.zero_add, cd_all h, ep, e5]; done)))
            | ((with_reducible refine e_X ?_ q6 ?_); focus (first | with_reducible rfl | (simp (disch := omega) only [b_all, sV_all, ↓reduceIte, Nat.reduceEqDiff, Nat.reduceLT, Nat.reduceLeDiff, Nat.reduceAdd, Nat.reduceMul, Nat.reduceSub, i_lit, eq_self, and_true, true_and, and_self, not_true_eq_false, not_false_eq_true, or_true, true_or, or_false, false_or, false_and, and_false, reduceCtorEq, Nat.add_left_cancel_iff, Nat.add_zero, Nat.zero_add, cd_all h, ep, e5]; done)))
            | ((with_reducible apply e_o1); focus (simp (disch := omega) only [b_all, sV_all, ↓reduceIte, Nat.reduceEqDiff, Nat.reduceLT, Nat.reduceLeDiff, Nat.reduceAdd, Nat.reduceMul, Nat.reduceSub, i_lit, eq_self, and_true, true_and, and_self, not_true_eq_false, not_false_eq_true, or_true, true_or, or_false, false_or, false_and, and_false, reduceCtorEq, Nat.add_left_cancel_iff, Nat.add_zero, Nat.zero_add, cd_all h, ep, e5]; first | done | rfl))
            | ((with_reducible refine e_ip ?_ ?_); focus (simp (disch := omega) only [b_all, sV_all, ↓reduceIte, Nat.reduceEqDiff, Nat.reduceLT, Nat.reduceLeDiff, Nat.reduceAdd, Nat.reduceMul, Nat.reduceSub, i_lit, eq_self, and_true, true_and, and_self, not_true_eq_false, not_false_eq_true, or_true, true_or, or_false, false_or, false_and, and_false, reduceCtorEq, Nat.add_left_cancel_iff, Nat.add_zero, Nat.zero_add, cd_all h, ep, e5]; done))
            | ((with_reducible refine e_in ?_ ?_); focus (simp (disch := omega) only [b_all, sV_all, ↓reduceIte, Nat.reduceEqDiff, Nat.reduceLT, Nat.reduceLeDiff, Nat.reduceAdd, Nat.reduceMul, Nat.reduceSub, i_lit, eq_self, and_true, true_and, and_self, not_true_eq_false, not_false_eq_true, or_true, true_or, or_false, false_or, false_and, and_false, reduceCtorEq, Nat.add_left_cancel_iff, Nat.add_zero, Nat.zero_add, cd_all h, ep, e5]; done))
            | unfold fX4_begin_31
            | unfold fX4_begin_32
            | fail)
          exact q6
      · have q2 := c_needS0 (k := k) h rm
        refine simX2 r i ?_ (fun C1 M1 h1 => m_begin_ise (k := k) h1 b c1 (fun z => c3 z.2))
        unfold fX4_begin
        repeat (first
          | (with_reducible refine e_l1 ?_)
          | ((with_reducible refine e_k ?_ (kB h) ?_); focus rfl)
          | ((with_reducible refine e_p ?_ (p_s h) ?_); focus rfl)
          | ((with_reducible refine e_p ?_ (p_t h) ?_); focus rfl)
          | ((with_reducible refine e_p ?_ (p_l h) ?_); focus rfl)
          | ((with_reducible refine e_p ?_ (p_f h) ?_); focus rfl)
          | ((with_reducible refine e_o2 ?_ q1 ?_); focus (first | with_reducible rfl | (simp (disch := omega) only [b_all, sV_all, ↓reduceIte, Nat.reduceEqDiff, Nat.reduceLT, Nat.reduceLeDiff, Nat.reduceAdd, Nat.reduceMul, Nat.reduceSub, i_lit, eq_self, and_true, true_and, and_self, not_true_eq_false, not_false_eq_true, or_true, true_or, or_false, false_or, false_and, and_false, reduceCtorEq, Nat.add_left_cancel_iff, Nat.add_zero, Nat.zero_add, cd_all h, ep, e5]; done)))
          | ((with_reducible refine e_o2 ?_ q2 ?_); focus (first | with_reducible rfl | (simp (disch := omega) only [b_all, sV_all, ↓reduceIte, Nat.reduceEqDiff, Nat.reduceLT, Nat.reduceLeDiff, Nat.reduceAdd, Nat.reduceMul, Nat.reduceSub, i_lit, eq_self, and_true, true_and, and_self, not_true_eq_false, not_false_eq_true, or_true, true_or, or_false, false_or, false_and, and_false, reduceCtorEq, Nat.add_left_cancel_iff, Nat.add_zero, Nat.zero_add, cd_all h, ep, e5]; done)))
          | ((with_reducible refine e_T ?_ q1 ?_); focus (first | with_reducible rfl | (simp (disch := omega) only [b_all, sV_all, ↓reduceIte, Nat.reduceEqDiff, Nat.reduceLT, Nat.reduceLeDiff, Nat.reduceAdd, Nat.reduceMul, Nat.reduceSub, i_lit, eq_self, and_true, true_and, and_self, not_true_eq_false, not_false_eq_true, or_true, true_or, or_false, false_or, false_and, and_false, reduceCtorEq, Nat.add_left_cancel_iff, Nat.add_zero, Nat.zero_add, cd_all h, ep, e5]; done)))
          | ((with_reducible refine e_X ?_ q1 ?_); focus (first | with_reducible rfl | (simp (disch := omega) only [b_all, sV_all, ↓reduceIte, Nat.reduceEqDiff, Nat.reduceLT, Nat.reduceLeDiff, Nat.reduceAdd, Nat.reduceMul, Nat.reduceSub, i_lit, eq_self, and_true, true_and, and_self, not_true_eq_false, not_false_eq_true, or_true, true_or, or_false, false_or, false_and, and_false, reduceCtorEq, Nat.add_left_cancel_iff, Nat.add_zero, Nat.zero_add, cd_all h, ep, e5]; done)))
          | ((with_reducible refine e_T ?_ q2 ?_); focus (first | with_reducible rfl | (simp (disch := omega) only [b_all, sV_all, ↓reduceIte, Nat.reduceEqDiff, Nat.reduceLT, Nat.reduceLeDiff, Nat.reduceAdd, Nat.reduceMul, Nat.reduceSub, i_lit, eq_self, and_true, true_and, and_self, not_true_eq_false, not_false_eq_true, or_true, true_or, or_false, false_or, false_and, and_false, reduceCtorEq, Nat.add_left_cancel_iff, Nat.add_zero, Nat.zero_add, cd_all h, ep, e5]; done)))
          | ((with_reducible refine e_X ?_ q2 ?_); focus (first | with_reducible rfl | (simp (disch := omega) only [b_all, sV_all, ↓reduceIte, Nat.reduceEqDiff, Nat.reduceLT, Nat.reduceLeDiff, Nat.reduceAdd, Nat.reduceMul, Nat.reduceSub, i_lit, eq_self, and_true, true_and, and_self, not_true_eq_false, not_false_eq_true, or_true, true_or, or_false, false_or, false_and, and_false, reduceCtorEq, Nat.add_left_cancel_iff, Nat.add_zero, Nat.zero_add, cd_all h, ep, e5]; done)))
          | ((with_reducible apply e_o1); focus (simp (disch := omega) only [b_all, sV_all, ↓reduceIte, Nat.reduceEqDiff, Nat.reduceLT, Nat.reduceLeDiff, Nat.reduceAdd, Nat.reduceMul, Nat.reduceSub, i_lit, eq_self, and_true, true_and, and_self, not_true_eq_false, not_false_eq_true, or_true, true_or, or_false, false_or, false_and, and_false, reduceCtorEq, Nat.add_left_cancel_iff, Nat.add_zero, Nat.zero_add, cd_all h, ep, e5]; first | done | rfl))
          | ((with_reducible refine e_ip ?_ ?_); focus (simp (disch := omega) only [b_all, sV_all, ↓reduceIte, Nat.reduceEqDiff, Nat.reduceLT, Nat.reduceLeDiff, Nat.reduceAdd, Nat.reduceMul, Nat.reduceSub, i_lit, eq_self, and_true, true_and, and_self, not_true_eq_false, not_false_eq_true, or_true, true_or, or_false, false_or, false_and, and_false, reduceCtorEq, Nat.add_left_cancel_iff, Nat.add_zero, Nat.zero_add, cd_all h, ep, e5]; done))
          | ((with_reducible refine e_in ?_ ?_); focus (simp (disch := omega) only [b_all, sV_all, ↓reduceIte, Nat.reduceEqDiff, Nat.reduceLT, Nat.reduceLeDiff, Nat.reduceAdd, Nat.reduceMul, Nat.reduceSub, i_lit, eq_self, and_true, true_and, and_self, not_true_eq_false, not_false_eq_true, or_true, true_or, or_false, false_or, false_and, and_false, reduceCtorEq, Nat.add_left_cancel_iff, Nat.add_zero, Nat.zero_add, cd_all h, ep, e5]; done))
          | unfold fX4_begin_31
          | unfold fX4_begin_32
          | fail)
        first | with_reducible rfl | simp (disch := omega) only [b_all, sV_all, ↓reduceIte, Nat.reduceEqDiff, Nat.reduceLT, Nat.reduceLeDiff, Nat.reduceAdd, Nat.reduceMul, Nat.reduceSub, i_lit, eq_self, and_true, true_and, and_self, not_true_eq_false, not_false_eq_true, or_true, true_or, or_false, false_or, false_and, and_false, reduceCtorEq, Nat.add_left_cancel_iff, Nat.add_zero, Nat.zero_add, cd_all h, ep, e5]
    · rw [bp_f c2] at ep
      have q2 := c_needS0 (k := k) h rm
      refine simX2 r i ?_ (fun C1 M1 h1 => m_begin_ise (k := k) h1 b c1 (fun z => c2 z.1))
      unfold fX4_begin
      repeat (first
        | (with_reducible refine e_l1 ?_)
        | ((with_reducible refine e_k ?_ (kB h) ?_); focus rfl)
        | ((with_reducible refine e_p ?_ (p_s h) ?_); focus rfl)
        | ((with_reducible refine e_p ?_ (p_t h) ?_); focus rfl)
        | ((with_reducible refine e_p ?_ (p_l h) ?_); focus rfl)
        | ((with_reducible refine e_p ?_ (p_f h) ?_); focus rfl)
        | ((with_reducible refine e_o2 ?_ q1 ?_); focus (first | with_reducible rfl | (simp (disch := omega) only [b_all, sV_all, ↓reduceIte, Nat.reduceEqDiff, Nat.reduceLT, Nat.reduceLeDiff, Nat.reduceAdd, Nat.reduceMul, Nat.reduceSub, i_lit, eq_self, and_true, true_and, and_self, not_true_eq_false, not_false_eq_true, or_true, true_or, or_false, false_or, false_and, and_false, reduceCtorEq, Nat.add_left_cancel_iff, Nat.add_zero, Nat.zero_add, cd_all h, ep]; done)))
        | ((with_reducible refine e_o2 ?_ q2 ?_); focus (first | with_reducible rfl | (simp (disch := omega) only [b_all, sV_all, ↓reduceIte, Nat.reduceEqDiff, Nat.reduceLT, Nat.reduceLeDiff, Nat.reduceAdd, Nat.reduceMul, Nat.reduceSub, i_lit, eq_self, and_true, true_and, and_self, not_true_eq_false, not_false_eq_true, or_true, true_or, or_false, false_or, false_and, and_false, reduceCtorEq, Nat.add_left_cancel_iff, Nat.add_zero, Nat.zero_add, cd_all h, ep]; done)))
        | ((with_reducible refine e_T ?_ q1 ?_); focus (first | with_reducible rfl | (simp (disch := omega) only [b_all, sV_all, ↓reduceIte, Nat.reduceEqDiff, Nat.reduceLT, Nat.reduceLeDiff, Nat.reduceAdd, Nat.reduceMul, Nat.reduceSub, i_lit, eq_self, and_true, true_and, and_self, not_true_eq_false, not_false_eq_true, or_true, true_or, or_false, false_or, false_and, and_false, reduceCtorEq, Nat.add_left_cancel_iff, Nat.add_zero, Nat.zero_add, cd_all h, ep]; done)))
        | ((with_reducible refine e_X ?_ q1 ?_); focus (first | with_reducible rfl | (simp (disch := omega) only [b_all, sV_all, ↓reduceIte, Nat.reduceEqDiff, Nat.reduceLT, Nat.reduceLeDiff, Nat.reduceAdd, Nat.reduceMul, Nat.reduceSub, i_lit, eq_self, and_true, true_and, and_self, not_true_eq_false, not_false_eq_true, or_true, true_or, or_false, false_or, false_and, and_false, reduceCtorEq, Nat.add_left_cancel_iff, Nat.add_zero, Nat.zero_add, cd_all h, ep]; done)))
        | ((with_reducible refine e_T ?_ q2 ?_); focus (first | with_reducible rfl | (simp (disch := omega) only [b_all, sV_all, ↓reduceIte, Nat.reduceEqDiff, Nat.reduceLT, Nat.reduceLeDiff, Nat.reduceAdd, Nat.reduceMul, Nat.reduceSub, i_lit, eq_self, and_true, true_and, and_self, not_true_eq_false, not_false_eq_true, or_true, true_or, or_false, false_or, false_and, and_false, reduceCtorEq, Nat.add_left_cancel_iff, Nat.add_zero, Nat.zero_add, cd_all h, ep]; done)))
        | ((with_reducible refine e_X ?_ q2 ?_); focus (first | with_reducible rfl | (simp (disch := omega) only [b_all, sV_all, ↓reduceIte, Nat.reduceEqDiff, Nat.reduceLT, Nat.reduceLeDiff, Nat.reduceAdd, Nat.reduceMul, Nat.reduceSub, i_lit, eq_self, and_true, true_and, and_self, not_true_eq_false, not_false_eq_true, or_true, true_or, or_false, false_or, false_and, and_false, reduceCtorEq, Nat.add_left_cancel_iff, Nat.add_zero, Nat.zero_add, cd_all h, ep]; done)))
        | ((with_reducible apply e_o1); focus (simp (disch := omega) only [b_all, sV_all, ↓reduceIte, Nat.reduceEqDiff, Nat.reduceLT, Nat.reduceLeDiff, Nat.reduceAdd, Nat.reduceMul, Nat.reduceSub, i_lit, eq_self, and_true, true_and, and_self, not_true_eq_false, not_false_eq_true, or_true, true_or, or_false, false_or, false_and, and_false, reduceCtorEq, Nat.add_left_cancel_iff, Nat.add_zero, Nat.zero_add, cd_all h, ep]; first | done | rfl))
        | ((with_reducible refine e_ip ?_ ?_); focus (simp (disch := omega) only [b_all, sV_all, ↓reduceIte, Nat.reduceEqDiff, Nat.reduceLT, Nat.reduceLeDiff, Nat.reduceAdd, Nat.reduceMul, Nat.reduceSub, i_lit, eq_self, and_true, true_and, and_self, not_true_eq_false, not_false_eq_true, or_true, true_or, or_false, false_or, false_and, and_false, reduceCtorEq, Nat.add_left_cancel_iff, Nat.add_zero, Nat.zero_add, cd_all h, ep]; done))
        | ((with_reducible refine e_in ?_ ?_); focus (simp (disch := omega) only [b_all, sV_all, ↓reduceIte, Nat.reduceEqDiff, Nat.reduceLT, Nat.reduceLeDiff, Nat.reduceAdd, Nat.reduceMul, Nat.reduceSub, i_lit, eq_self, and_true, true_and, and_self, not_true_eq_false, not_false_eq_true, or_true, true_or, or_false, false_or, false_and, and_false, reduceCtorEq, Nat.add_left_cancel_iff, Nat.add_zero, Nat.zero_add, cd_all h, ep]; done))
        | unfold fX4_begin_31
        | unfold fX4_begin_32
        | fail)
      first | with_reducible rfl | simp (disch := omega) only [b_all, sV_all, ↓reduceIte, Nat.reduceEqDiff, Nat.reduceLT, Nat.reduceLeDiff, Nat.reduceAdd, Nat.reduceMul, Nat.reduceSub, i_lit, eq_self, and_true, true_and, and_self, not_true_eq_false, not_false_eq_true, or_true, true_or, or_false, false_or, false_and, and_false, reduceCtorEq, Nat.add_left_cancel_iff, Nat.add_zero, Nat.zero_add, cd_all h, ep]
  · have q1 := c_site0 (k := k) h r.q rm hs' (by omega : ¬ s < C 0 4)
    refine simX1 r i ?_ (fun C1 M1 h1 => m_begin_iae (k := k) h1 b hs' c1)
    unfold fX4_begin
    repeat (first
      | (with_reducible refine e_l1 ?_)
      | ((with_reducible refine e_k ?_ (kB h) ?_); focus rfl)
      | ((with_reducible refine e_p ?_ (p_s h) ?_); focus rfl)
      | ((with_reducible refine e_p ?_ (p_t h) ?_); focus rfl)
      | ((with_reducible refine e_p ?_ (p_l h) ?_); focus rfl)
      | ((with_reducible refine e_p ?_ (p_f h) ?_); focus rfl)
      | ((with_reducible refine e_o2 ?_ q1 ?_); focus (first | with_reducible rfl | (simp (disch := omega) only [b_all, sV_all, ↓reduceIte, Nat.reduceEqDiff, Nat.reduceLT, Nat.reduceLeDiff, Nat.reduceAdd, Nat.reduceMul, Nat.reduceSub, i_lit, eq_self, and_true, true_and, and_self, not_true_eq_false, not_false_eq_true, or_true, true_or, or_false, false_or, false_and, and_false, reduceCtorEq, Nat.add_left_cancel_iff, Nat.add_zero, Nat.zero_add, cd_all h]; done)))
      | ((with_reducible refine e_T ?_ q1 ?_); focus (first | with_reducible rfl | (simp (disch := omega) only [b_all, sV_all, ↓reduceIte, Nat.reduceEqDiff, Nat.reduceLT, Nat.reduceLeDiff, Nat.reduceAdd, Nat.reduceMul, Nat.reduceSub, i_lit, eq_self, and_true, true_and, and_self, not_true_eq_false, not_false_eq_true, or_true, true_or, or_false, false_or, false_and, and_false, reduceCtorEq, Nat.add_left_cancel_iff, Nat.add_zero, Nat.zero_add, cd_all h]; done)))
      | ((with_reducible refine e_X ?_ q1 ?_); focus (first | with_reducible rfl | (simp (disch := omega) only [b_all, sV_all, ↓reduceIte, Nat.reduceEqDiff, Nat.reduceLT, Nat.reduceLeDiff, Nat.reduceAdd, Nat.reduceMul, Nat.reduceSub, i_lit, eq_self, and_true, true_and, and_self, not_true_eq_false, not_false_eq_true, or_true, true_or, or_false, false_or, false_and, and_false, reduceCtorEq, Nat.add_left_cancel_iff, Nat.add_zero, Nat.zero_add, cd_all h]; done)))
      | ((with_reducible apply e_o1); focus (simp (disch := omega) only [b_all, sV_all, ↓reduceIte, Nat.reduceEqDiff, Nat.reduceLT, Nat.reduceLeDiff, Nat.reduceAdd, Nat.reduceMul, Nat.reduceSub, i_lit, eq_self, and_true, true_and, and_self, not_true_eq_false, not_false_eq_true, or_true, true_or, or_false, false_or, false_and, and_false, reduceCtorEq, Nat.add_left_cancel_iff, Nat.add_zero, Nat.zero_add, cd_all h]; first | done | rfl))
      | ((with_reducible refine e_ip ?_ ?_); focus (simp (disch := omega) only [b_all, sV_all, ↓reduceIte, Nat.reduceEqDiff, Nat.reduceLT, Nat.reduceLeDiff, Nat.reduceAdd, Nat.reduceMul, Nat.reduceSub, i_lit, eq_self, and_true, true_and, and_self, not_true_eq_false, not_false_eq_true, or_true, true_or, or_false, false_or, false_and, and_false, reduceCtorEq, Nat.add_left_cancel_iff, Nat.add_zero, Nat.zero_add, cd_all h]; done))
      | ((with_reducible refine e_in ?_ ?_); focus (simp (disch := omega) only [b_all, sV_all, ↓reduceIte, Nat.reduceEqDiff, Nat.reduceLT, Nat.reduceLeDiff, Nat.reduceAdd, Nat.reduceMul, Nat.reduceSub, i_lit, eq_self, and_true, true_and, and_self, not_true_eq_false, not_false_eq_true, or_true, true_or, or_false, false_or, false_and, and_false, reduceCtorEq, Nat.add_left_cancel_iff, Nat.add_zero, Nat.zero_add, cd_all h]; done))
      | fail)
    first | with_reducible rfl | simp (disch := omega) only [b_all, sV_all, ↓reduceIte, Nat.reduceEqDiff, Nat.reduceLT, Nat.reduceLeDiff, Nat.reduceAdd, Nat.reduceMul, Nat.reduceSub, i_lit, eq_self, and_true, true_and, and_self, not_true_eq_false, not_false_eq_true, or_true, true_or, or_false, false_or, false_and, and_false, reduceCtorEq, Nat.add_left_cancel_iff, Nat.add_zero, Nat.zero_add, cd_all h]
end
