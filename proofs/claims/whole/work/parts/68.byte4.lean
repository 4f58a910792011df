/-! Bytes of a letter: the class spells it -/
/-- the class's state while it spells -/
def Sp (x : Cx) (B : Nat) (C W0 : Ab) (w : Nat) (L : List Nat) (C' : Ab) (M : Mm) : Prop := St x B C' W0 M ∧ Pf C w L C' ∧ ∀ q, 3 < q → C' 24 q < 4294967296
section
variable {x : Cx} {k B : Nat} {C W W0 : Ab} {M : Mm}
theorem sp_put {C' : Ab} {w : Nat} {L : List Nat} (s : Sp x B C W0 w L C' M) (b : By L) (hl : L.length < 299) (hw : w < 4294967296) (v : Int32) : ∃ C2 M2, fX0_put x k (B + 24) v M = some ((), M2) ∧ Sp x B C W0 w (L ++ [bt v]) C2 M2 := by
  obtain ⟨C2, M2, e, h, p, q⟩ := c_put (k := k) s.1 s.2.1 b hl hw s.2.2 v
  exact ⟨C2, M2, e, h, p, q⟩
theorem sp_two {C' : Ab} {w : Nat} {L : List Nat} (s : Sp x B C W0 w L C' M) (b : By L) (hl : L.length < 298) (hw : w < 4294967296) (v : Int32) : ∃ C2 M2, fX0_putTwo x k (B + 24) v M = some ((), M2) ∧ Sp x B C W0 w (L ++ two v) C2 M2 := by
  obtain ⟨C1, M1, e1, s1⟩ := sp_put (k := k) s b (by omega) hw (v >>> (i32 8 &&& i32 31))
  obtain ⟨C2, M2, e2, s2⟩ := sp_put (k := k) s1 (b.app (By.one (bt_lt _))) (by rw [List.length_append]; show _ + 1 < 299; omega) hw v
  refine ⟨C2, M2, ?_, by rw [List.append_assoc] at s2; exact s2⟩
  have h := s.1
  have h1 := s1.1
  unfold fX0_putTwo
  repeat (first
    | (with_reducible refine e_l1 ?_)
    | ((with_reducible refine e_k ?_ (kB h) ?_); focus rfl)
    | ((with_reducible refine e_p ?_ (p_s h) ?_); focus rfl)
    | ((with_reducible refine e_p ?_ (p_t h) ?_); focus rfl)
    | ((with_reducible refine e_p ?_ (p_l h) ?_); focus rfl)
    | ((with_reducible refine e_p ?_ (p_f h) ?_); focus rfl)
    | ((with_reducible refine e_k ?_ (kB h1) ?_); focus rfl)
    | ((with_reducible refine e_p ?_ (p_s h1) ?_); focus rfl)
    | ((with_reducible refine e_p ?_ (p_t h1) ?_); focus rfl)
    | ((with_reducible refine e_p ?_ (p_l h1) ?_); focus rfl)
    | ((with_reducible refine e_p ?_ (p_f h1) ?_); focus rfl)
    | ((with_reducible refine e_o2 ?_ e1 ?_); focus (first | with_reducible rfl | (simp (disch := omega) only [b_all, sV_all, ↓reduceIte, Nat.reduceEqDiff, Nat.reduceLT, Nat.reduceLeDiff, Nat.reduceAdd, Nat.reduceMul, Nat.reduceSub, i_lit, eq_self, and_true, true_and, and_self, not_true_eq_false, not_false_eq_true, or_true, true_or, or_false, false_or, false_and, and_false, reduceCtorEq, Nat.add_left_cancel_iff, Nat.add_zero, Nat.zero_add, cd_all h, cd_all h1]; done)))
    | ((with_reducible refine e_o2 ?_ e2 ?_); focus (first | with_reducible rfl | (simp (disch := omega) only [b_all, sV_all, ↓reduceIte, Nat.reduceEqDiff, Nat.reduceLT, Nat.reduceLeDiff, Nat.reduceAdd, Nat.reduceMul, Nat.reduceSub, i_lit, eq_self, and_true, true_and, and_self, not_true_eq_false, not_false_eq_true, or_true, true_or, or_false, false_or, false_and, and_false, reduceCtorEq, Nat.add_left_cancel_iff, Nat.add_zero, Nat.zero_add, cd_all h, cd_all h1]; done)))
    | ((with_reducible refine e_T ?_ e1 ?_); focus (first | with_reducible rfl | (simp (disch := omega) only [b_all, sV_all, ↓reduceIte, Nat.reduceEqDiff, Nat.reduceLT, Nat.reduceLeDiff, Nat.reduceAdd, Nat.reduceMul, Nat.reduceSub, i_lit, eq_self, and_true, true_and, and_self, not_true_eq_false, not_false_eq_true, or_true, true_or, or_false, false_or, false_and, and_false, reduceCtorEq, Nat.add_left_cancel_iff, Nat.add_zero, Nat.zero_add, cd_all h, cd_all h1]; done)))
    | ((with_reducible refine e_X ?_ e1 ?_); focus (first | with_reducible rfl | (simp (disch := omega) only [b_all, sV_all, ↓reduceIte, Nat.reduceEqDiff, Nat.reduceLT, Nat.reduceLeDiff, Nat.reduceAdd, Nat.reduceMul, Nat.reduceSub, i_lit, eq_self, and_true, true_and, and_self, not_true_eq_false, not_false_eq_true, or_true, true_or, or_false, false_or, false_and, and_false, reduceCtorEq, Nat.add_left_cancel_iff, Nat.add_zero, Nat.zero_add, cd_all h, cd_all h1]; done)))
    | ((with_reducible refine e_T ?_ e2 ?_); focus (first | with_reducible rfl | (simp (disch := omega) only [b_all, sV_all, ↓reduceIte, Nat.reduceEqDiff, Nat.reduceLT, Nat.reduceLeDiff, Nat.reduceAdd, Nat.reduceMul, Nat.reduceSub, i_lit, eq_self, and_true, true_and, and_self, not_true_eq_false, not_false_eq_true, or_true, true_or, or_false, false_or, false_and, and_false, reduceCtorEq, Nat.add_left_cancel_iff, Nat.add_zero, Nat.zero_add, cd_all h, cd_all h1]; done)))
    | ((with_reducible refine e_X ?_ e2 ?_); focus (first | with_reducible rfl | (simp (disch := omega) only [b_all, sV_all, ↓reduceIte, Nat.reduceEqDiff, Nat.reduceLT, Nat.reduceLeDiff, Nat.reduceAdd, Nat.reduceMul, Nat.reduceSub, i_lit, eq_self, and_true, true_and, and_self, not_true_eq_false, not_false_eq_true, or_true, true_or, or_false, false_or, false_and, and_false, reduceCtorEq, Nat.add_left_cancel_iff, Nat.add_zero, Nat.zero_add, cd_all h, cd_all h1]; done)))
    | ((with_reducible apply e_o1); focus (simp (disch := omega) only [b_all, sV_all, ↓reduceIte, Nat.reduceEqDiff, Nat.reduceLT, Nat.reduceLeDiff, Nat.reduceAdd, Nat.reduceMul, Nat.reduceSub, i_lit, eq_self, and_true, true_and, and_self, not_true_eq_false, not_false_eq_true, or_true, true_or, or_false, false_or, false_and, and_false, reduceCtorEq, Nat.add_left_cancel_iff, Nat.add_zero, Nat.zero_add, cd_all h, cd_all h1]; first | done | rfl))
    | ((with_reducible refine e_ip ?_ ?_); focus (simp (disch := omega) only [b_all, sV_all, ↓reduceIte, Nat.reduceEqDiff, Nat.reduceLT, Nat.reduceLeDiff, Nat.reduceAdd, Nat.reduceMul, Nat.reduceSub, i_lit, eq_self, and_true, true_and, and_self, not_true_eq_false, not_false_eq_true, or_true, true_or, or_false, false_or, false_and, and_false, reduceCtorEq, Nat.add_left_cancel_iff, Nat.add_zero, Nat.zero_add, cd_all h, cd_all h1]; done))
    | ((with_reducible refine e_in ?_ ?_); focus (simp (disch := omega) only [b_all, sV_all, ↓reduceIte, Nat.reduceEqDiff, Nat.reduceLT, Nat.reduceLeDiff, Nat.reduceAdd, Nat.reduceMul, Nat.reduceSub, i_lit, eq_self, and_true, true_and, and_self, not_true_eq_false, not_false_eq_true, or_true, true_or, or_false, false_or, false_and, and_false, reduceCtorEq, Nat.add_left_cancel_iff, Nat.add_zero, Nat.zero_add, cd_all h, cd_all h1]; done))
    | fail)
  first | with_reducible rfl | simp (disch := omega) only [b_all, sV_all, ↓reduceIte, Nat.reduceEqDiff, Nat.reduceLT, Nat.reduceLeDiff, Nat.reduceAdd, Nat.reduceMul, Nat.reduceSub, i_lit, eq_self, and_true, true_and, and_self, not_true_eq_false, not_false_eq_true, or_true, true_or, or_false, false_or, false_and, and_false, reduceCtorEq, Nat.add_left_cancel_iff, Nat.add_zero, Nat.zero_add, cd_all h, cd_all h1]
theorem sp_four {C' : Ab} {w : Nat} {L : List Nat} (s : Sp x B C W0 w L C' M) (b : By L) (hl : L.length < 296) (hw : w < 4294967296) (v : Int32) : ∃ C2 M2, fX0_putFour x k (B + 24) v M = some ((), M2) ∧ Sp x B C W0 w (L ++ four v) C2 M2 := by
  obtain ⟨C1, M1, e1, s1⟩ := sp_two (k := k) s b (by omega) hw (v >>> (i32 16 &&& i32 31))
  obtain ⟨C2, M2, e2, s2⟩ := sp_two (k := k) s1 (b.app (two_by _)) (by rw [List.length_append]; show _ + 2 < 298; omega) hw v
  refine ⟨C2, M2, ?_, by rw [List.append_assoc] at s2; exact s2⟩
  have h := s.1
  have h1 := s1.1
  unfold fX0_putFour
  repeat (first
    | (with_reducible refine e_l1 ?_)
    | ((with_reducible refine e_k ?_ (kB h) ?_); focus rfl)
    | ((with_reducible refine e_p ?_ (p_s h) ?_); focus rfl)
    | ((with_reducible refine e_p ?_ (p_t h) ?_); focus rfl)
    | ((with_reducible refine e_p ?_ (p_l h) ?_); focus rfl)
    | ((with_reducible refine e_p ?_ (p_f h) ?_); focus rfl)
    | ((with_reducible refine e_k ?_ (kB h1) ?_); focus rfl)
    | ((with_reducible refine e_p ?_ (p_s h1) ?_); focus rfl)
    | ((with_reducible refine e_p ?_ (p_t h1) ?_); focus rfl)
    | ((with_reducible refine e_p ?_ (p_l h1) ?_); focus rfl)
    | ((with_reducible refine e_p ?_ (p_f h1) ?_); focus rfl)
    | ((with_reducible refine e_o2 ?_ e1 ?_); focus (first | with_reducible rfl | (simp (disch := omega) only [b_all, sV_all, ↓reduceIte, Nat.reduceEqDiff, Nat.reduceLT, Nat.reduceLeDiff, Nat.reduceAdd, Nat.reduceMul, Nat.reduceSub, i_lit, eq_self, and_true, true_and, and_self, not_true_eq_false, not_false_eq_true, or_true, true_or, or_false, false_or, false_and, and_false, reduceCtorEq, Nat.add_left_cancel_iff, Nat.add_zero, Nat.zero_add, cd_all h, cd_all h1]; done)))
    | ((with_reducible refine e_o2 ?_ e2 ?_); focus (first | with_reducible rfl | (simp (disch := omega) only [b_all, sV_all, ↓reduceIte, Nat.reduceEqDiff, Nat.reduceLT, Nat.reduceLeDiff, Nat.reduceAdd, Nat.reduceMul, Nat.reduceSub, i_lit, eq_self, and_true, true_and, and_self, not_true_eq_false, not_false_eq_true, or_true, true_or, or_false, false_or, false_and, and_false, reduceCtorEq, Nat.add_left_cancel_iff, Nat.add_zero, Nat.zero_add, cd_all h, cd_all h1]; done)))
    | ((with_reducible refine e_T ?_ e1 ?_); focus (first | with_reducible rfl | (simp (disch := omega) only [b_all, sV_all, ↓reduceIte, Nat.reduceEqDiff, Nat.reduceLT, Nat.reduceLeDiff, Nat.reduceAdd, Nat.reduceMul, Nat.reduceSub, i_lit, eq_self, and_true, true_and, and_self, not_true_eq_false, not_false_eq_true, or_true, true_or, or_false, false_or, false_and, and_false, reduceCtorEq, Nat.add_left_cancel_iff, Nat.add_zero, Nat.zero_add, cd_all h, cd_all h1]; done)))
    | ((with_reducible refine e_X ?_ e1 ?_); focus (first | with_reducible rfl | (simp (disch := omega) only [b_all, sV_all, ↓reduceIte, Nat.reduceEqDiff, Nat.reduceLT, Nat.reduceLeDiff, Nat.reduceAdd, Nat.reduceMul, Nat.reduceSub, i_lit, eq_self, and_true, true_and, and_self, not_true_eq_false, not_false_eq_true, or_true, true_or, or_false, false_or, false_and, and_false, reduceCtorEq, Nat.add_left_cancel_iff, Nat.add_zero, Nat.zero_add, cd_all h, cd_all h1]; done)))
    | ((with_reducible refine e_T ?_ e2 ?_); focus (first | with_reducible rfl | (simp (disch := omega) only [b_all, sV_all, ↓reduceIte, Nat.reduceEqDiff, Nat.reduceLT, Nat.reduceLeDiff, Nat.reduceAdd, Nat.reduceMul, Nat.reduceSub, i_lit, eq_self, and_true, true_and, and_self, not_true_eq_false, not_false_eq_true, or_true, true_or, or_false, false_or, false_and, and_false, reduceCtorEq, Nat.add_left_cancel_iff, Nat.add_zero, Nat.zero_add, cd_all h, cd_all h1]; done)))
    | ((with_reducible refine e_X ?_ e2 ?_); focus (first | with_reducible rfl | (simp (disch := omega) only [b_all, sV_all, ↓reduceIte, Nat.reduceEqDiff, Nat.reduceLT, Nat.reduceLeDiff, Nat.reduceAdd, Nat.reduceMul, Nat.reduceSub, i_lit, eq_self, and_true, true_and, and_self, not_true_eq_false, not_false_eq_true, or_true, true_or, or_false, false_or, false_and, and_false, reduceCtorEq, Nat.add_left_cancel_iff, Nat.add_zero, Nat.zero_add, cd_all h, cd_all h1]; done)))
    | ((with_reducible apply e_o1); focus (simp (disch := omega) only [b_all, sV_all, ↓reduceIte, Nat.reduceEqDiff, Nat.reduceLT, Nat.reduceLeDiff, Nat.reduceAdd, Nat.reduceMul, Nat.reduceSub, i_lit, eq_self, and_true, true_and, and_self, not_true_eq_false, not_false_eq_true, or_true, true_or, or_false, false_or, false_and, and_false, reduceCtorEq, Nat.add_left_cancel_iff, Nat.add_zero, Nat.zero_add, cd_all h, cd_all h1]; first | done | rfl))
    | ((with_reducible refine e_ip ?_ ?_); focus (simp (disch := omega) only [b_all, sV_all, ↓reduceIte, Nat.reduceEqDiff, Nat.reduceLT, Nat.reduceLeDiff, Nat.reduceAdd, Nat.reduceMul, Nat.reduceSub, i_lit, eq_self, and_true, true_and, and_self, not_true_eq_false, not_false_eq_true, or_true, true_or, or_false, false_or, false_and, and_false, reduceCtorEq, Nat.add_left_cancel_iff, Nat.add_zero, Nat.zero_add, cd_all h, cd_all h1]; done))
    | ((with_reducible refine e_in ?_ ?_); focus (simp (disch := omega) only [b_all, sV_all, ↓reduceIte, Nat.reduceEqDiff, Nat.reduceLT, Nat.reduceLeDiff, Nat.reduceAdd, Nat.reduceMul, Nat.reduceSub, i_lit, eq_self, and_true, true_and, and_self, not_true_eq_false, not_false_eq_true, or_true, true_or, or_false, false_or, false_and, and_false, reduceCtorEq, Nat.add_left_cancel_iff, Nat.add_zero, Nat.zero_add, cd_all h, cd_all h1]; done))
    | fail)
  first | with_reducible rfl | simp (disch := omega) only [b_all, sV_all, ↓reduceIte, Nat.reduceEqDiff, Nat.reduceLT, Nat.reduceLeDiff, Nat.reduceAdd, Nat.reduceMul, Nat.reduceSub, i_lit, eq_self, and_true, true_and, and_self, not_true_eq_false, not_false_eq_true, or_true, true_or, or_false, false_or, false_and, and_false, reduceCtorEq, Nat.add_left_cancel_iff, Nat.add_zero, Nat.zero_add, cd_all h, cd_all h1]
theorem Sp.rl {C' : Ab} {w : Nat} {L : List Nat} (s : Sp x B C W0 w L C' M) (r : Rl C W) (b : By L) (hl : L.length < 300) (hw : w < 4294967296) : Rl C' W := rl_pf r s.2.1 b hl hw s.2.2
theorem sp_start2 (r : Rl C W) {t w : Nat} (ht : t < W 0 5) (hw : w < 4294967296) (L : List Nat) (b : By L) (hl : L.length < 250) : ∀ n j C' M, Sp x B C W0 w (L ++ stB W t j) C' M → j ≤ W 0 0 → W 0 0 < n + j → ∃ C2 M2, fX4_spellStart_2 x k n B (C 70 t) (i32 j) M = some ((), M2) ∧ Sp x B C W0 w (L ++ stB W t (W 0 0)) C2 M2 := by
  have hb := r.b
  intro n
  induction n with
  | zero => intro j C' M _ h1 h2; omega
  | succ n ih =>
    intro j C' M s hj hn
    have sl := stB_l W t j
    have r' := s.rl r (b.app sl.2) (by rw [List.length_append]; omega) hw
    have h := s.1
    have e4 := r'.s.1
    have ht' := r'.c ht
    have e70 : C' 70 t = C 70 t := s.2.1.1 _ _ (by omega)
    rw [← e70]
    by_cases c : W 0 0 ≤ j
    · obtain rfl : j = W 0 0 := by omega
      refine ⟨C', M, ?_, s⟩
      rw [fX4_spellStart_2]
      repeat (first
        | (with_reducible refine e_l1 ?_)
        | ((with_reducible refine e_k ?_ (kB h) ?_); focus rfl)
        | ((with_reducible refine e_p ?_ (p_s h) ?_); focus rfl)
        | ((with_reducible refine e_p ?_ (p_t h) ?_); focus rfl)
        | ((with_reducible refine e_p ?_ (p_l h) ?_); focus rfl)
        | ((with_reducible refine e_p ?_ (p_f h) ?_); focus rfl)
        | ((with_reducible apply e_o1); focus (simp (disch := omega) only [b_all, sV_all, ↓reduceIte, Nat.reduceEqDiff, Nat.reduceLT, Nat.reduceLeDiff, Nat.reduceAdd, Nat.reduceMul, Nat.reduceSub, i_lit, eq_self, and_true, true_and, and_self, not_true_eq_false, not_false_eq_true, or_true, true_or, or_false, false_or, false_and, and_false, reduceCtorEq, Nat.add_left_cancel_iff, Nat.add_zero, Nat.zero_add, cd_all h, e4]; first | done | rfl))
        | ((with_reducible refine e_ip ?_ ?_); focus (simp (disch := omega) only [b_all, sV_all, ↓reduceIte, Nat.reduceEqDiff, Nat.reduceLT, Nat.reduceLeDiff, Nat.reduceAdd, Nat.reduceMul, Nat.reduceSub, i_lit, eq_self, and_true, true_and, and_self, not_true_eq_false, not_false_eq_true, or_true, true_or, or_false, false_or, false_and, and_false, reduceCtorEq, Nat.add_left_cancel_iff, Nat.add_zero, Nat.zero_add, cd_all h, e4]; done))
        | ((with_reducible refine e_in ?_ ?_); focus (simp (disch := omega) only [b_all, sV_all, ↓reduceIte, Nat.reduceEqDiff, Nat.reduceLT, Nat.reduceLeDiff, Nat.reduceAdd, Nat.reduceMul, Nat.reduceSub, i_lit, eq_self, and_true, true_and, and_self, not_true_eq_false, not_false_eq_true, or_true, true_or, or_false, false_or, false_and, and_false, reduceCtorEq, Nat.add_left_cancel_iff, Nat.add_zero, Nat.zero_add, cd_all h, e4]; done))
        | fail)
      first | with_reducible rfl | simp (disch := omega) only [b_all, sV_all, ↓reduceIte, Nat.reduceEqDiff, Nat.reduceLT, Nat.reduceLeDiff, Nat.reduceAdd, Nat.reduceMul, Nat.reduceSub, i_lit, eq_self, and_true, true_and, and_self, not_true_eq_false, not_false_eq_true, or_true, true_or, or_false, false_or, false_and, and_false, reduceCtorEq, Nat.add_left_cancel_iff, Nat.add_zero, Nat.zero_add, cd_all h, e4]
    · have e7 := (r'.t ht).2.1 j (by omega)
      obtain ⟨C1, M1, e1, s1⟩ := sp_two (k := k) s (b.app sl.2) (by rw [List.length_append]; omega) hw (i32 (W 7 (5 * t + j)))
      obtain ⟨C2, M2, e2, s2⟩ := ih (j + 1) C1 M1 (by rw [List.append_assoc] at s1; exact s1) (by omega) (by omega)
      refine ⟨C2, M2, ?_, s2⟩
      rw [← e2, ← e70, fX4_spellStart_2]
      repeat (first
        | (with_reducible refine e_l1 ?_)
        | ((with_reducible refine e_k ?_ (kB h) ?_); focus rfl)
        | ((with_reducible refine e_p ?_ (p_s h) ?_); focus rfl)
        | ((with_reducible refine e_p ?_ (p_t h) ?_); focus rfl)
        | ((with_reducible refine e_p ?_ (p_l h) ?_); focus rfl)
        | ((with_reducible refine e_p ?_ (p_f h) ?_); focus rfl)
        | ((with_reducible refine e_o2 ?_ e1 ?_); focus (first | with_reducible rfl | (simp (disch := omega) only [b_all, sV_all, ↓reduceIte, Nat.reduceEqDiff, Nat.reduceLT, Nat.reduceLeDiff, Nat.reduceAdd, Nat.reduceMul, Nat.reduceSub, i_lit, eq_self, and_true, true_and, and_self, not_true_eq_false, not_false_eq_true, or_true, true_or, or_false, false_or, false_and, and_false, reduceCtorEq, Nat.add_left_cancel_iff, Nat.add_zero, Nat.zero_add, cd_all h, e4, e7]; done)))
        | ((with_reducible refine e_T ?_ e1 ?_); focus (first | with_reducible rfl | (simp (disch := omega) only [b_all, sV_all, ↓reduceIte, Nat.reduceEqDiff, Nat.reduceLT, Nat.reduceLeDiff, Nat.reduceAdd, Nat.reduceMul, Nat.reduceSub, i_lit, eq_self, and_true, true_and, and_self, not_true_eq_false, not_false_eq_true, or_true, true_or, or_false, false_or, false_and, and_false, reduceCtorEq, Nat.add_left_cancel_iff, Nat.add_zero, Nat.zero_add, cd_all h, e4, e7]; done)))
        | ((with_reducible refine e_X ?_ e1 ?_); focus (first | with_reducible rfl | (simp (disch := omega) only [b_all, sV_all, ↓reduceIte, Nat.reduceEqDiff, Nat.reduceLT, Nat.reduceLeDiff, Nat.reduceAdd, Nat.reduceMul, Nat.reduceSub, i_lit, eq_self, and_true, true_and, and_self, not_true_eq_false, not_false_eq_true, or_true, true_or, or_false, false_or, false_and, and_false, reduceCtorEq, Nat.add_left_cancel_iff, Nat.add_zero, Nat.zero_add, cd_all h, e4, e7]; done)))
        | ((with_reducible apply e_o1); focus (simp (disch := omega) only [b_all, sV_all, ↓reduceIte, Nat.reduceEqDiff, Nat.reduceLT, Nat.reduceLeDiff, Nat.reduceAdd, Nat.reduceMul, Nat.reduceSub, i_lit, eq_self, and_true, true_and, and_self, not_true_eq_false, not_false_eq_true, or_true, true_or, or_false, false_or, false_and, and_false, reduceCtorEq, Nat.add_left_cancel_iff, Nat.add_zero, Nat.zero_add, cd_all h, e4, e7]; first | done | rfl))
        | ((with_reducible refine e_ip ?_ ?_); focus (simp (disch := omega) only [b_all, sV_all, ↓reduceIte, Nat.reduceEqDiff, Nat.reduceLT, Nat.reduceLeDiff, Nat.reduceAdd, Nat.reduceMul, Nat.reduceSub, i_lit, eq_self, and_true, true_and, and_self, not_true_eq_false, not_false_eq_true, or_true, true_or, or_false, false_or, false_and, and_false, reduceCtorEq, Nat.add_left_cancel_iff, Nat.add_zero, Nat.zero_add, cd_all h, e4, e7]; done))
        | ((with_reducible refine e_in ?_ ?_); focus (simp (disch := omega) only [b_all, sV_all, ↓reduceIte, Nat.reduceEqDiff, Nat.reduceLT, Nat.reduceLeDiff, Nat.reduceAdd, Nat.reduceMul, Nat.reduceSub, i_lit, eq_self, and_true, true_and, and_self, not_true_eq_false, not_false_eq_true, or_true, true_or, or_false, false_or, false_and, and_false, reduceCtorEq, Nat.add_left_cancel_iff, Nat.add_zero, Nat.zero_add, cd_all h, e4, e7]; done))
        | fail)
      first | with_reducible rfl | simp (disch := omega) only [b_all, sV_all, ↓reduceIte, Nat.reduceEqDiff, Nat.reduceLT, Nat.reduceLeDiff, Nat.reduceAdd, Nat.reduceMul, Nat.reduceSub, i_lit, eq_self, and_true, true_and, and_self, not_true_eq_false, not_false_eq_true, or_true, true_or, or_false, false_or, false_and, and_false, reduceCtorEq, Nat.add_left_cancel_iff, Nat.add_zero, Nat.zero_add, cd_all h, e4, e7]
theorem sp_start (hk : 5000 ≤ k) (r : Rl C W) {t w : Nat} (ht : t < W 0 5) (hw : w < 4294967296) {L : List Nat} (b : By L) (hl : L.length < 250) {C' : Ab} (s : Sp x B C W0 w L C' M) : ∃ C2 M2, fX4_spellStart x k B (C 70 t) M = some ((), M2) ∧ Sp x B C W0 w (L ++ stB W t (W 0 0)) C2 M2 := by
  have hb := r.b
  exact sp_start2 r ht hw L b hl k 0 C' M (by rw [show stB W t 0 = [] from rfl, List.append_nil]; exact s) (by omega) (by omega)
theorem sp_ask43 (r : Rl C W) {t w to : Nat} (ht : t < W 0 5) (hto : to < 5) (hw : w < 4294967296) (L : List Nat) (b : By L) (hl : L.length < 100) : ∀ n o C' M, Sp x B C W0 w (L ++ obB W 1 t (pB W 1 to t) o) C' M → o ≤ 20 → 20 < n + o → ∃ C2 M2, fX4_spellAsked_43 x k n B (C 70 t) (i32 to) (i32 o) M = some ((), M2) ∧ Sp x B C W0 w (L ++ obB W 1 t (pB W 1 to t) 20) C2 M2 := by
  intro n
  induction n with
  | zero => intro o C' M _ h1 h2; omega
  | succ n ih =>
    intro o C' M s ho hn
    have sl := obB_l W 1 t (pB W 1 to t) o
    have r' := s.rl r (b.app sl.2) (by rw [List.length_append]; omega) hw
    have h := s.1
    have e70 : C' 70 t = C 70 t := s.2.1.1 _ _ (by omega)
    have ht' := r'.c ht
    rw [← e70]
    by_cases c : 20 ≤ o
    · obtain rfl : o = 20 := by omega
      refine ⟨C', M, ?_, s⟩
      rw [fX4_spellAsked_43]
      repeat (first
        | (with_reducible refine e_l1 ?_)
        | ((with_reducible refine e_k ?_ (kB h) ?_); focus rfl)
        | ((with_reducible refine e_p ?_ (p_s h) ?_); focus rfl)
        | ((with_reducible refine e_p ?_ (p_t h) ?_); focus rfl)
        | ((with_reducible refine e_p ?_ (p_l h) ?_); focus rfl)
        | ((with_reducible refine e_p ?_ (p_f h) ?_); focus rfl)
        | ((with_reducible apply e_o1); focus (simp (disch := omega) only [b_all, sV_all, ↓reduceIte, Nat.reduceEqDiff, Nat.reduceLT, Nat.reduceLeDiff, Nat.reduceAdd, Nat.reduceMul, Nat.reduceSub, i_lit, eq_self, and_true, true_and, and_self, not_true_eq_false, not_false_eq_true, or_true, true_or, or_false, false_or, false_and, and_false, reduceCtorEq, Nat.add_left_cancel_iff, Nat.add_zero, Nat.zero_add, cd_all h]; first | done | rfl))
        | ((with_reducible refine e_ip ?_ ?_); focus (simp (disch := omega) only [b_all, sV_all, ↓reduceIte, Nat.reduceEqDiff, Nat.reduceLT, Nat.reduceLeDiff, Nat.reduceAdd, Nat.reduceMul, Nat.reduceSub, i_lit, eq_self, and_true, true_and, and_self, not_true_eq_false, not_false_eq_true, or_true, true_or, or_false, false_or, false_and, and_false, reduceCtorEq, Nat.add_left_cancel_iff, Nat.add_zero, Nat.zero_add, cd_all h]; done))
        | ((with_reducible refine e_in ?_ ?_); focus (simp (disch := omega) only [b_all, sV_all, ↓reduceIte, Nat.reduceEqDiff, Nat.reduceLT, Nat.reduceLeDiff, Nat.reduceAdd, Nat.reduceMul, Nat.reduceSub, i_lit, eq_self, and_true, true_and, and_self, not_true_eq_false, not_false_eq_true, or_true, true_or, or_false, false_or, false_and, and_false, reduceCtorEq, Nat.add_left_cancel_iff, Nat.add_zero, Nat.zero_add, cd_all h]; done))
        | fail)
      first | with_reducible rfl | simp (disch := omega) only [b_all, sV_all, ↓reduceIte, Nat.reduceEqDiff, Nat.reduceLT, Nat.reduceLeDiff, Nat.reduceAdd, Nat.reduceMul, Nat.reduceSub, i_lit, eq_self, and_true, true_and, and_self, not_true_eq_false, not_false_eq_true, or_true, true_or, or_false, false_or, false_and, and_false, reduceCtorEq, Nat.add_left_cancel_iff, Nat.add_zero, Nat.zero_add, cd_all h]
    · have eh := c_hwh (k := k) h r' ht (show o < 20 by omega) hto
      by_cases cp : wr W t o ∧ o % W 0 0 = to
      · rw [bp_t cp] at eh
        have pb : pB W 1 to t o := ⟨cp.1, fun _ => cp.2⟩
        obtain ⟨C1, M1, e1, s1⟩ := sp_put (k := k) s (b.app sl.2) (by rw [List.length_append]; omega) hw (i32 o)
        obtain ⟨C2, M2, e2, s2⟩ := ih (o + 1) C1 M1 (by
          rw [obB_t pb]
          have ev : obV W 1 t o = [bt (i32 o)] := by unfold obV; rw [if_neg (by omega)]
          rw [ev, ← List.append_assoc]; exact s1) (by omega) (by omega)
        refine ⟨C2, M2, ?_, s2⟩
        rw [← e2, ← e70, fX4_spellAsked_43]
        repeat (first
          | (with_reducible refine e_l1 ?_)
          | ((with_reducible refine e_k ?_ (kB h) ?_); focus rfl)
          | ((with_reducible refine e_p ?_ (p_s h) ?_); focus rfl)
          | ((with_reducible refine e_p ?_ (p_t h) ?_); focus rfl)
          | ((with_reducible refine e_p ?_ (p_l h) ?_); focus rfl)
          | ((with_reducible refine e_p ?_ (p_f h) ?_); focus rfl)
          | ((with_reducible refine e_o2 ?_ eh ?_); focus (first | with_reducible rfl | (simp (disch := omega) only [b_all, sV_all, ↓reduceIte, Nat.reduceEqDiff, Nat.reduceLT, Nat.reduceLeDiff, Nat.reduceAdd, Nat.reduceMul, Nat.reduceSub, i_lit, eq_self, and_true, true_and, and_self, not_true_eq_false, not_false_eq_true, or_true, true_or, or_false, false_or, false_and, and_false, reduceCtorEq, Nat.add_left_cancel_iff, Nat.add_zero, Nat.zero_add, cd_all h]; done)))
          | ((with_reducible refine e_o2 ?_ e1 ?_); focus (first | with_reducible rfl | (simp (disch := omega) only [b_all, sV_all, ↓reduceIte, Nat.reduceEqDiff, Nat.reduceLT, Nat.reduceLeDiff, Nat.reduceAdd, Nat.reduceMul, Nat.reduceSub, i_lit, eq_self, and_true, true_and, and_self, not_true_eq_false, not_false_eq_true, or_true, true_or, or_false, false_or, false_and, and_false, reduceCtorEq, Nat.add_left_cancel_iff, Nat.add_zero, Nat.zero_add, cd_all h]; done)))
          | ((with_reducible refine e_T ?_ eh ?_); focus (first | with_reducible rfl | (simp (disch := omega) only [b_all, sV_all, ↓reduceIte, Nat.reduceEqDiff, Nat.reduceLT, Nat.reduceLeDiff, Nat.reduceAdd, Nat.reduceMul, Nat.reduceSub, i_lit, eq_self, and_true, true_and, and_self, not_true_eq_false, not_false_eq_true, or_true, true_or, or_false, false_or, false_and, and_false, reduceCtorEq, Nat.add_left_cancel_iff, Nat.add_zero, Nat.zero_add, cd_all h]; done)))
          | ((with_reducible refine e_X ?_ eh ?_); focus (first | with_reducible rfl | (simp (disch := omega) only [b_all, sV_all, ↓reduceIte, Nat.reduceEqDiff, Nat.reduceLT, Nat.reduceLeDiff, Nat.reduceAdd, Nat.reduceMul, Nat.reduceSub, i_lit, eq_self, and_true, true_and, and_self, not_true_eq_false, not_false_eq_true, or_true, true_or, or_false, false_or, false_and, and_false, reduceCtorEq, Nat.add_left_cancel_iff, Nat.add_zero, Nat.zero_add, cd_all h]; done)))
          | ((with_reducible refine e_T ?_ e1 ?_); focus (first | with_reducible rfl | (simp (disch := omega) only [b_all, sV_all, ↓reduceIte, Nat.reduceEqDiff, Nat.reduceLT, Nat.reduceLeDiff, Nat.reduceAdd, Nat.reduceMul, Nat.reduceSub, i_lit, eq_self, and_true, true_and, and_self, not_true_eq_false, not_false_eq_true, or_true, true_or, or_false, false_or, false_and, and_false, reduceCtorEq, Nat.add_left_cancel_iff, Nat.add_zero, Nat.zero_add, cd_all h]; done)))
          | ((with_reducible refine e_X ?_ e1 ?_); focus (first | with_reducible rfl | (simp (disch := omega) only [b_all, sV_all, ↓reduceIte, Nat.reduceEqDiff, Nat.reduceLT, Nat.reduceLeDiff, Nat.reduceAdd, Nat.reduceMul, Nat.reduceSub, i_lit, eq_self, and_true, true_and, and_self, not_true_eq_false, not_false_eq_true, or_true, true_or, or_false, false_or, false_and, and_false, reduceCtorEq, Nat.add_left_cancel_iff, Nat.add_zero, Nat.zero_add, cd_all h]; done)))
          | ((with_reducible apply e_o1); focus (simp (disch := omega) only [b_all, sV_all, ↓reduceIte, Nat.reduceEqDiff, Nat.reduceLT, Nat.reduceLeDiff, Nat.reduceAdd, Nat.reduceMul, Nat.reduceSub, i_lit, eq_self, and_true, true_and, and_self, not_true_eq_false, not_false_eq_true, or_true, true_or, or_false, false_or, false_and, and_false, reduceCtorEq, Nat.add_left_cancel_iff, Nat.add_zero, Nat.zero_add, cd_all h]; first | done | rfl))
          | ((with_reducible refine e_ip ?_ ?_); focus (simp (disch := omega) only [b_all, sV_all, ↓reduceIte, Nat.reduceEqDiff, Nat.reduceLT, Nat.reduceLeDiff, Nat.reduceAdd, Nat.reduceMul, Nat.reduceSub, i_lit, eq_self, and_true, true_and, and_self, not_true_eq_false, not_false_eq_true, or_true, true_or, or_false, false_or, false_and, and_false, reduceCtorEq, Nat.add_left_cancel_iff, Nat.add_zero, Nat.zero_add, cd_all h]; done))
          | ((with_reducible refine e_in ?_ ?_); focus (simp (disch := omega) only [b_all, sV_all, ↓reduceIte, Nat.reduceEqDiff, Nat.reduceLT, Nat.reduceLeDiff, Nat.reduceAdd, Nat.reduceMul, Nat.reduceSub, i_lit, eq_self, and_true, true_and, and_self, not_true_eq_false, not_false_eq_true, or_true, true_or, or_false, false_or, false_and, and_false, reduceCtorEq, Nat.add_left_cancel_iff, Nat.add_zero, Nat.zero_add, cd_all h]; done))
          | unfold fX4_spellAsked_70
          | fail)
        first | with_reducible rfl | simp (disch := omega) only [b_all, sV_all, ↓reduceIte, Nat.reduceEqDiff, Nat.reduceLT, Nat.reduceLeDiff, Nat.reduceAdd, Nat.reduceMul, Nat.reduceSub, i_lit, eq_self, and_true, true_and, and_self, not_true_eq_false, not_false_eq_true, or_true, true_or, or_false, false_or, false_and, and_false, reduceCtorEq, Nat.add_left_cancel_iff, Nat.add_zero, Nat.zero_add, cd_all h]
      · rw [bp_f cp] at eh
        have pb : ¬ pB W 1 to t o := fun z => cp ⟨z.1, z.2 rfl⟩
        obtain ⟨C2, M2, e2, s2⟩ := ih (o + 1) C' M (by rw [obB_f pb]; exact s) (by omega) (by omega)
        refine ⟨C2, M2, ?_, s2⟩
        rw [← e2, ← e70, fX4_spellAsked_43]
        repeat (first
          | (with_reducible refine e_l1 ?_)
          | ((with_reducible refine e_k ?_ (kB h) ?_); focus rfl)
          | ((with_reducible refine e_p ?_ (p_s h) ?_); focus rfl)
          | ((with_reducible refine e_p ?_ (p_t h) ?_); focus rfl)
          | ((with_reducible refine e_p ?_ (p_l h) ?_); focus rfl)
          | ((with_reducible refine e_p ?_ (p_f h) ?_); focus rfl)
          | ((with_reducible refine e_o2 ?_ eh ?_); focus (first | with_reducible rfl | (simp (disch := omega) only [b_all, sV_all, ↓reduceIte, Nat.reduceEqDiff, Nat.reduceLT, Nat.reduceLeDiff, Nat.reduceAdd, Nat.reduceMul, Nat.reduceSub, i_lit, eq_self, and_true, true_and, and_self, not_true_eq_false, not_false_eq_true, or_true, true_or, or_false, false_or, false_and, and_false, reduceCtorEq, Nat.add_left_cancel_iff, Nat.add_zero, Nat.zero_add, cd_all h]; done)))
          | ((with_reducible refine e_T ?_ eh ?_); focus (first | with_reducible rfl | (simp (disch := omega) only [b_all, sV_all, ↓reduceIte, Nat.reduceEqDiff, Nat.reduceLT, Nat.reduceLeDiff, Nat.reduceAdd, Nat.reduceMul, Nat.reduceSub, i_lit, eq_self, and_true, true_and, and_self, not_true_eq_false, not_false_eq_true, or_true, true_or, or_false, false_or, false_and, and_false, reduceCtorEq, Nat.add_left_cancel_iff, Nat.add_zero, Nat.zero_add, cd_all h]; done)))
          | ((with_reducible refine e_X ?_ eh ?_); focus (first | with_reducible rfl | (simp (disch := omega) only [b_all, sV_all, ↓reduceIte, Nat.reduceEqDiff, Nat.reduceLT, Nat.reduceLeDiff, Nat.reduceAdd, Nat.reduceMul, Nat.reduceSub, i_lit, eq_self, and_true, true_and, and_self, not_true_eq_false, not_false_eq_true, or_true, true_or, or_false, false_or, false_and, and_false, reduceCtorEq, Nat.add_left_cancel_iff, Nat.add_zero, Nat.zero_add, cd_all h]; done)))
          | ((with_reducible apply e_o1); focus (simp (disch := omega) only [b_all, sV_all, ↓reduceIte, Nat.reduceEqDiff, Nat.reduceLT, Nat.reduceLeDiff, Nat.reduceAdd, Nat.reduceMul, Nat.reduceSub, i_lit, eq_self, and_true, true_and, and_self, not_true_eq_false, not_false_eq_true, or_true, true_or, or_false, false_or, false_and, and_false, reduceCtorEq, Nat.add_left_cancel_iff, Nat.add_zero, Nat.zero_add, cd_all h]; first | done | rfl))
          | ((with_reducible refine e_ip ?_ ?_); focus (simp (disch := omega) only [b_all, sV_all, ↓reduceIte, Nat.reduceEqDiff, Nat.reduceLT, Nat.reduceLeDiff, Nat.reduceAdd, Nat.reduceMul, Nat.reduceSub, i_lit, eq_self, and_true, true_and, and_self, not_true_eq_false, not_false_eq_true, or_true, true_or, or_false, false_or, false_and, and_false, reduceCtorEq, Nat.add_left_cancel_iff, Nat.add_zero, Nat.zero_add, cd_all h]; done))
          | ((with_reducible refine e_in ?_ ?_); focus (simp (disch := omega) only [b_all, sV_all, ↓reduceIte, Nat.reduceEqDiff, Nat.reduceLT, Nat.reduceLeDiff, Nat.reduceAdd, Nat.reduceMul, Nat.reduceSub, i_lit, eq_self, and_true, true_and, and_self, not_true_eq_false, not_false_eq_true, or_true, true_or, or_false, false_or, false_and, and_false, reduceCtorEq, Nat.add_left_cancel_iff, Nat.add_zero, Nat.zero_add, cd_all h]; done))
          | unfold fX4_spellAsked_70
          | fail)
        first | with_reducible rfl | simp (disch := omega) only [b_all, sV_all, ↓reduceIte, Nat.reduceEqDiff, Nat.reduceLT, Nat.reduceLeDiff, Nat.reduceAdd, Nat.reduceMul, Nat.reduceSub, i_lit, eq_self, and_true, true_and, and_self, not_true_eq_false, not_false_eq_true, or_true, true_or, or_false, false_or, false_and, and_false, reduceCtorEq, Nat.add_left_cancel_iff, Nat.add_zero, Nat.zero_add, cd_all h]
theorem sp_ask5 (hk : 5000 ≤ k) (r : Rl C W) {t w to : Nat} (ht : t < W 0 5) (hto : to < 5) (hw : w < 4294967296) {L : List Nat} (b : By L) (hl : L.length < 90) {C' : Ab} (s : Sp x B C W0 w L C' M) : ∀ n o, o ≤ 20 → 20 < n + o → ∃ C2 M2, fX4_spellAsked_5 x k n B (C 70 t) (i32 to) (i32 (ct (pB W 1 to t) o)) (i32 o) M = some ((), M2) ∧ Sp x B C W0 w (L ++ (ct (pB W 1 to t) 20 :: obB W 1 t (pB W 1 to t) 20)) C2 M2 := by
  have r' := s.rl r b (by omega) hw
  have h := s.1
  have e70 : C' 70 t = C 70 t := s.2.1.1 _ _ (by omega)
  have ht' := r'.c ht
  intro n
  induction n with
  | zero => intro o h1 h2; omega
  | succ n ih =>
    intro o ho hn
    have hc := ct_le (pB W 1 to t) o
    by_cases c : 20 ≤ o
    · obtain rfl : o = 20 := by omega
      obtain ⟨C1, M1, e1, s1⟩ := sp_put (k := k) s b (by omega) hw (i32 (ct (pB W 1 to t) 20))
      rw [bt_n (by omega)] at s1
      obtain ⟨C2, M2, e2, s2⟩ := sp_ask43 (k := k) r ht hto hw (L ++ [ct (pB W 1 to t) 20]) (b.app (By.one (by omega))) (by rw [List.length_append]; show _ + 1 < 100; omega) k 0 C1 M1 (by rw [show obB W 1 t (pB W 1 to t) 0 = [] from rfl, List.append_nil]; exact s1) (by omega) (by omega)
      rw [List.append_assoc] at s2
      refine ⟨C2, M2, ?_, s2⟩
      rw [← e2, fX4_spellAsked_5]
      repeat (first
        | (with_reducible refine e_l1 ?_)
        | ((with_reducible refine e_k ?_ (kB h) ?_); focus rfl)
        | ((with_reducible refine e_p ?_ (p_s h) ?_); focus rfl)
        | ((with_reducible refine e_p ?_ (p_t h) ?_); focus rfl)
        | ((with_reducible refine e_p ?_ (p_l h) ?_); focus rfl)
        | ((with_reducible refine e_p ?_ (p_f h) ?_); focus rfl)
        | ((with_reducible refine e_o2 ?_ e1 ?_); focus (first | with_reducible rfl | (simp (disch := omega) only [b_all, sV_all, ↓reduceIte, Nat.reduceEqDiff, Nat.reduceLT, Nat.reduceLeDiff, Nat.reduceAdd, Nat.reduceMul, Nat.reduceSub, i_lit, eq_self, and_true, true_and, and_self, not_true_eq_false, not_false_eq_true, or_true, true_or, or_false, false_or, false_and, and_false, reduceCtorEq, Nat.add_left_cancel_iff, Nat.add_zero, Nat.zero_add, cd_all h]; done)))
        | ((with_reducible refine e_T ?_ e1 ?_); focus (first | with_reducible rfl | (simp (disch := omega) only [b_all, sV_all, ↓reduceIte, Nat.reduceEqDiff, Nat.reduceLT, Nat.reduceLeDiff, Nat.reduceAdd, Nat.reduceMul, Nat.reduceSub, i_lit, eq_self, and_true, true_and, and_self, not_true_eq_false, not_false_eq_true, or_true, true_or, or_false, false_or, false_and, and_false, reduceCtorEq, Nat.add_left_cancel_iff, Nat.add_zero, Nat.zero_add, cd_all h]; done)))
        | ((with_reducible refine e_X ?_ e1 ?_); focus (first | with_reducible rfl | (simp (disch := omega) only [b_all, sV_all, ↓reduceIte, Nat.reduceEqDiff, Nat.reduceLT, Nat.reduceLeDiff, Nat.reduceAdd, Nat.reduceMul, Nat.reduceSub, i_lit, eq_self, and_true, true_and, and_self, not_true_eq_false, not_false_eq_true, or_true, true_or, or_false, false_or, false_and, and_false, reduceCtorEq, Nat.add_left_cancel_iff, Nat.add_zero, Nat.zero_add, cd_all h]; done)))
        | ((with_reducible apply e_o1); focus (simp (disch := omega) only [b_all, sV_all, ↓reduceIte, Nat.reduceEqDiff, Nat.reduceLT, Nat.reduceLeDiff, Nat.reduceAdd, Nat.reduceMul, Nat.reduceSub, i_lit, eq_self, and_true, true_and, and_self, not_true_eq_false, not_false_eq_true, or_true, true_or, or_false, false_or, false_and, and_false, reduceCtorEq, Nat.add_left_cancel_iff, Nat.add_zero, Nat.zero_add, cd_all h]; first | done | rfl))
        | ((with_reducible refine e_ip ?_ ?_); focus (simp (disch := omega) only [b_all, sV_all, ↓reduceIte, Nat.reduceEqDiff, Nat.reduceLT, Nat.reduceLeDiff, Nat.reduceAdd, Nat.reduceMul, Nat.reduceSub, i_lit, eq_self, and_true, true_and, and_self, not_true_eq_false, not_false_eq_true, or_true, true_or, or_false, false_or, false_and, and_false, reduceCtorEq, Nat.add_left_cancel_iff, Nat.add_zero, Nat.zero_add, cd_all h]; done))
        | ((with_reducible refine e_in ?_ ?_); focus (simp (disch := omega) only [b_all, sV_all, ↓reduceIte, Nat.reduceEqDiff, Nat.reduceLT, Nat.reduceLeDiff, Nat.reduceAdd, Nat.reduceMul, Nat.reduceSub, i_lit, eq_self, and_true, true_and, and_self, not_true_eq_false, not_false_eq_true, or_true, true_or, or_false, false_or, false_and, and_false, reduceCtorEq, Nat.add_left_cancel_iff, Nat.add_zero, Nat.zero_add, cd_all h]; done))
        | fail)
      first | with_reducible rfl | simp (disch := omega) only [b_all, sV_all, ↓reduceIte, Nat.reduceEqDiff, Nat.reduceLT, Nat.reduceLeDiff, Nat.reduceAdd, Nat.reduceMul, Nat.reduceSub, i_lit, eq_self, and_true, true_and, and_self, not_true_eq_false, not_false_eq_true, or_true, true_or, or_false, false_or, false_and, and_false, reduceCtorEq, Nat.add_left_cancel_iff, Nat.add_zero, Nat.zero_add, cd_all h]
    · have eh := c_hwh (k := k) h r' ht (show o < 20 by omega) hto
      obtain ⟨C2, M2, e2, s2⟩ := ih (o + 1) (by omega) (by omega)
      refine ⟨C2, M2, ?_, s2⟩
      rw [← e2, show ct (pB W 1 to t) (o + 1) = ct (pB W 1 to t) o + bp (pB W 1 to t o) from rfl, fX4_spellAsked_5]
      rw [e70] at eh
      by_cases cp : wr W t o ∧ o % W 0 0 = to
      · rw [bp_t cp] at eh
        rw [bp_t (show pB W 1 to t o from ⟨cp.1, fun _ => cp.2⟩)]
        repeat (first
          | (with_reducible refine e_l1 ?_)
          | ((with_reducible refine e_k ?_ (kB h) ?_); focus rfl)
          | ((with_reducible refine e_p ?_ (p_s h) ?_); focus rfl)
          | ((with_reducible refine e_p ?_ (p_t h) ?_); focus rfl)
          | ((with_reducible refine e_p ?_ (p_l h) ?_); focus rfl)
          | ((with_reducible refine e_p ?_ (p_f h) ?_); focus rfl)
          | ((with_reducible refine e_o2 ?_ eh ?_); focus (first | with_reducible rfl | (simp (disch := omega) only [b_all, sV_all, ↓reduceIte, Nat.reduceEqDiff, Nat.reduceLT, Nat.reduceLeDiff, Nat.reduceAdd, Nat.reduceMul, Nat.reduceSub, i_lit, eq_self, and_true, true_and, and_self, not_true_eq_false, not_false_eq_true, or_true, true_or, or_false, false_or, false_and, and_false, reduceCtorEq, Nat.add_left_cancel_iff, Nat.add_zero, Nat.zero_add, cd_all h]; done)))
          | ((with_reducible refine e_T ?_ eh ?_); focus (first | with_reducible rfl | (simp (disch := omega) only [b_all, sV_all, ↓reduceIte, Nat.reduceEqDiff, Nat.reduceLT, Nat.reduceLeDiff, Nat.reduceAdd, Nat.reduceMul, Nat.reduceSub, i_lit, eq_self, and_true, true_and, and_self, not_true_eq_false, not_false_eq_true, or_true, true_or, or_false, false_or, false_and, and_false, reduceCtorEq, Nat.add_left_cancel_iff, Nat.add_zero, Nat.zero_add, cd_all h]; done)))
          | ((with_reducible refine e_X ?_ eh ?_); focus (first | with_reducible rfl | (simp (disch := omega) only [b_all, sV_all, ↓reduceIte, Nat.reduceEqDiff, Nat.reduceLT, Nat.reduceLeDiff, Nat.reduceAdd, Nat.reduceMul, Nat.reduceSub, i_lit, eq_self, and_true, true_and, and_self, not_true_eq_false, not_false_eq_true, or_true, true_or, or_false, false_or, false_and, and_false, reduceCtorEq, Nat.add_left_cancel_iff, Nat.add_zero, Nat.zero_add, cd_all h]; done)))
          | ((with_reducible apply e_o1); focus (simp (disch := omega) only [b_all, sV_all, ↓reduceIte, Nat.reduceEqDiff, Nat.reduceLT, Nat.reduceLeDiff, Nat.reduceAdd, Nat.reduceMul, Nat.reduceSub, i_lit, eq_self, and_true, true_and, and_self, not_true_eq_false, not_false_eq_true, or_true, true_or, or_false, false_or, false_and, and_false, reduceCtorEq, Nat.add_left_cancel_iff, Nat.add_zero, Nat.zero_add, cd_all h]; first | done | rfl))
          | ((with_reducible refine e_ip ?_ ?_); focus (simp (disch := omega) only [b_all, sV_all, ↓reduceIte, Nat.reduceEqDiff, Nat.reduceLT, Nat.reduceLeDiff, Nat.reduceAdd, Nat.reduceMul, Nat.reduceSub, i_lit, eq_self, and_true, true_and, and_self, not_true_eq_false, not_false_eq_true, or_true, true_or, or_false, false_or, false_and, and_false, reduceCtorEq, Nat.add_left_cancel_iff, Nat.add_zero, Nat.zero_add, cd_all h]; done))
          | ((with_reducible refine e_in ?_ ?_); focus (simp (disch := omega) only [b_all, sV_all, ↓reduceIte, Nat.reduceEqDiff, Nat.reduceLT, Nat.reduceLeDiff, Nat.reduceAdd, Nat.reduceMul, Nat.reduceSub, i_lit, eq_self, and_true, true_and, and_self, not_true_eq_false, not_false_eq_true, or_true, true_or, or_false, false_or, false_and, and_false, reduceCtorEq, Nat.add_left_cancel_iff, Nat.add_zero, Nat.zero_add, cd_all h]; done))
          | unfold fX4_spellAsked_26
          | fail)
        first | with_reducible rfl | simp (disch := omega) only [b_all, sV_all, ↓reduceIte, Nat.reduceEqDiff, Nat.reduceLT, Nat.reduceLeDiff, Nat.reduceAdd, Nat.reduceMul, Nat.reduceSub, i_lit, eq_self, and_true, true_and, and_self, not_true_eq_false, not_false_eq_true, or_true, true_or, or_false, false_or, false_and, and_false, reduceCtorEq, Nat.add_left_cancel_iff, Nat.add_zero, Nat.zero_add, cd_all h]
      · rw [bp_f cp] at eh
        rw [bp_f (show ¬ pB W 1 to t o from fun z => cp ⟨z.1, z.2 rfl⟩)]
        repeat (first
          | (with_reducible refine e_l1 ?_)
          | ((with_reducible refine e_k ?_ (kB h) ?_); focus rfl)
          | ((with_reducible refine e_p ?_ (p_s h) ?_); focus rfl)
          | ((with_reducible refine e_p ?_ (p_t h) ?_); focus rfl)
          | ((with_reducible refine e_p ?_ (p_l h) ?_); focus rfl)
          | ((with_reducible refine e_p ?_ (p_f h) ?_); focus rfl)
          | ((with_reducible refine e_o2 ?_ eh ?_); focus (first | with_reducible rfl | (simp (disch := omega) only [b_all, sV_all, ↓reduceIte, Nat.reduceEqDiff, Nat.reduceLT, Nat.reduceLeDiff, Nat.reduceAdd, Nat.reduceMul, Nat.reduceSub, i_lit, eq_self, and_true, true_and, and_self, not_true_eq_false, not_false_eq_true, or_true, true_or, or_false, false_or, false_and, and_false, reduceCtorEq, Nat.add_left_cancel_iff, Nat.add_zero, Nat.zero_add, cd_all h]; done)))
          | ((with_reducible refine e_T ?_ eh ?_); focus (first | with_reducible rfl | (simp (disch := omega) only [b_all, sV_all, ↓reduceIte, Nat.reduceEqDiff, Nat.reduceLT, Nat.reduceLeDiff, Nat.reduceAdd, Nat.reduceMul, Nat.reduceSub, i_lit, eq_self, and_true, true_and, and_self, not_true_eq_false, not_false_eq_true, or_true, true_or, or_false, false_or, false_and, and_false, reduceCtorEq, Nat.add_left_cancel_iff, Nat.add_zero, Nat.zero_add, cd_all h]; done)))
          | ((with_reducible refine e_X ?_ eh ?_); focus (first | with_reducible rfl | (simp (disch := omega) only [b_all, sV_all, ↓reduceIte, Nat.reduceEqDiff, Nat.reduceLT, Nat.reduceLeDiff, Nat.reduceAdd, Nat.reduceMul, Nat.reduceSub, i_lit, eq_self, and_true, true_and, and_self, not_true_eq_false, not_false_eq_true, or_true, true_or, or_false, false_or, false_and, and_false, reduceCtorEq, Nat.add_left_cancel_iff, Nat.add_zero, Nat.zero_add, cd_all h]; done)))
          | ((with_reducible apply e_o1); focus (simp (disch := omega) only [b_all, sV_all, ↓reduceIte, Nat.reduceEqDiff, Nat.reduceLT, Nat.reduceLeDiff, Nat.reduceAdd, Nat.reduceMul, Nat.reduceSub, i_lit, eq_self, and_true, true_and, and_self, not_true_eq_false, not_false_eq_true, or_true, true_or, or_false, false_or, false_and, and_false, reduceCtorEq, Nat.add_left_cancel_iff, Nat.add_zero, Nat.zero_add, cd_all h]; first | done | rfl))
          | ((with_reducible refine e_ip ?_ ?_); focus (simp (disch := omega) only [b_all, sV_all, ↓reduceIte, Nat.reduceEqDiff, Nat.reduceLT, Nat.reduceLeDiff, Nat.reduceAdd, Nat.reduceMul, Nat.reduceSub, i_lit, eq_self, and_true, true_and, and_self, not_true_eq_false, not_false_eq_true, or_true, true_or, or_false, false_or, false_and, and_false, reduceCtorEq, Nat.add_left_cancel_iff, Nat.add_zero, Nat.zero_add, cd_all h]; done))
          | ((with_reducible refine e_in ?_ ?_); focus (simp (disch := omega) only [b_all, sV_all, ↓reduceIte, Nat.reduceEqDiff, Nat.reduceLT, Nat.reduceLeDiff, Nat.reduceAdd, Nat.reduceMul, Nat.reduceSub, i_lit, eq_self, and_true, true_and, and_self, not_true_eq_false, not_false_eq_true, or_true, true_or, or_false, false_or, false_and, and_false, reduceCtorEq, Nat.add_left_cancel_iff, Nat.add_zero, Nat.zero_add, cd_all h]; done))
          | unfold fX4_spellAsked_26
          | fail)
        first | with_reducible rfl | simp (disch := omega) only [b_all, sV_all, ↓reduceIte, Nat.reduceEqDiff, Nat.reduceLT, Nat.reduceLeDiff, Nat.reduceAdd, Nat.reduceMul, Nat.reduceSub, i_lit, eq_self, and_true, true_and, and_self, not_true_eq_false, not_false_eq_true, or_true, true_or, or_false, false_or, false_and, and_false, reduceCtorEq, Nat.add_left_cancel_iff, Nat.add_zero, Nat.zero_add, cd_all h]
theorem sp_wr13 (r : Rl C W) {t w to : Nat} (ht : t < W 0 5) (hw : w < 4294967296) (L : List Nat) (b : By L) (hl : L.length < 100) : ∀ n o C' M, Sp x B C W0 w (L ++ obB W 5 t (pB W 5 to t) o) C' M → o ≤ 20 → 20 < n + o → ∃ C2 M2, fX4_spellWritten_13 x k n B (C 70 t) (i32 o) M = some ((), M2) ∧ Sp x B C W0 w (L ++ obB W 5 t (pB W 5 to t) 20) C2 M2 := by
  intro n
  induction n with
  | zero => intro o C' M _ h1 h2; omega
  | succ n ih =>
    intro o C' M s ho hn
    have sl := obB_l W 5 t (pB W 5 to t) o
    have r' := s.rl r (b.app sl.2) (by rw [List.length_append]; omega) hw
    have h := s.1
    have e70 : C' 70 t = C 70 t := s.2.1.1 _ _ (by omega)
    have ht' := r'.c ht
    rw [← e70]
    by_cases c : 20 ≤ o
    · obtain rfl : o = 20 := by omega
      refine ⟨C', M, ?_, s⟩
      rw [fX4_spellWritten_13]
      repeat (first
        | (with_reducible refine e_l1 ?_)
        | ((with_reducible refine e_k ?_ (kB h) ?_); focus rfl)
        | ((with_reducible refine e_p ?_ (p_s h) ?_); focus rfl)
        | ((with_reducible refine e_p ?_ (p_t h) ?_); focus rfl)
        | ((with_reducible refine e_p ?_ (p_l h) ?_); focus rfl)
        | ((with_reducible refine e_p ?_ (p_f h) ?_); focus rfl)
        | ((with_reducible apply e_o1); focus (simp (disch := omega) only [b_all, sV_all, ↓reduceIte, Nat.reduceEqDiff, Nat.reduceLT, Nat.reduceLeDiff, Nat.reduceAdd, Nat.reduceMul, Nat.reduceSub, i_lit, eq_self, and_true, true_and, and_self, not_true_eq_false, not_false_eq_true, or_true, true_or, or_false, false_or, false_and, and_false, reduceCtorEq, Nat.add_left_cancel_iff, Nat.add_zero, Nat.zero_add, cd_all h]; first | done | rfl))
        | ((with_reducible refine e_ip ?_ ?_); focus (simp (disch := omega) only [b_all, sV_all, ↓reduceIte, Nat.reduceEqDiff, Nat.reduceLT, Nat.reduceLeDiff, Nat.reduceAdd, Nat.reduceMul, Nat.reduceSub, i_lit, eq_self, and_true, true_and, and_self, not_true_eq_false, not_false_eq_true, or_true, true_or, or_false, false_or, false_and, and_false, reduceCtorEq, Nat.add_left_cancel_iff, Nat.add_zero, Nat.zero_add, cd_all h]; done))
        | ((with_reducible refine e_in ?_ ?_); focus (simp (disch := omega) only [b_all, sV_all, ↓reduceIte, Nat.reduceEqDiff, Nat.reduceLT, Nat.reduceLeDiff, Nat.reduceAdd, Nat.reduceMul, Nat.reduceSub, i_lit, eq_self, and_true, true_and, and_self, not_true_eq_false, not_false_eq_true, or_true, true_or, or_false, false_or, false_and, and_false, reduceCtorEq, Nat.add_left_cancel_iff, Nat.add_zero, Nat.zero_add, cd_all h]; done))
        | fail)
      first | with_reducible rfl | simp (disch := omega) only [b_all, sV_all, ↓reduceIte, Nat.reduceEqDiff, Nat.reduceLT, Nat.reduceLeDiff, Nat.reduceAdd, Nat.reduceMul, Nat.reduceSub, i_lit, eq_self, and_true, true_and, and_self, not_true_eq_false, not_false_eq_true, or_true, true_or, or_false, false_or, false_and, and_false, reduceCtorEq, Nat.add_left_cancel_iff, Nat.add_zero, Nat.zero_add, cd_all h]
    · have eh := c_wr (k := k) h r' ht (show o < 20 by omega)
      by_cases cp : wr W t o
      · rw [bp_t cp] at eh
        have pb : pB W 5 to t o := ⟨cp, fun z => by omega⟩
        obtain ⟨C1, M1, e1, s1⟩ := sp_put (k := k) s (b.app sl.2) (by rw [List.length_append]; omega) hw (i32 o)
        have r1 := s1.rl r ((b.app sl.2).app (By.one (bt_lt _))) (by rw [List.length_append, List.length_append]; show _ + 1 < 300; omega) hw
        have h1 := s1.1
        have e70' : C1 70 t = C' 70 t := by rw [s1.2.1.1 _ _ (by omega), e70]
        have ev := (r1.t ht).2.2.1.2 o (by omega) cp
        obtain ⟨k1, v1, pp1, -⟩ := tk h1 (r1.c ht) e70'
        have ka2 : mK M1 (C' 70 t + 2) = 8 := by rw [← e70']; exact kT2 h1 (r1.c ht)
        have na2 : mN M1 (C' 70 t + 2) = 20 := by rw [← e70']; exact nT2 h1 (r1.c ht)
        have va2 : mV M1 (C' 70 t + 2) o = i32 (W 14 (20 * t + o)) := by rw [← e70', cvT2 h1 (r1.c ht), ev]
        have pp6 := pp1.2.1
        obtain ⟨C3, M3, e3, s3⟩ := sp_four (k := k) s1 ((b.app sl.2).app (By.one (bt_lt _))) (by rw [List.length_append, List.length_append]; show _ + 1 < 296; omega) hw (i32 (W 14 (20 * t + o)))
        obtain ⟨C2, M2, e2, s2⟩ := ih (o + 1) C3 M3 (by
          rw [obB_t pb]
          have ev : obV W 5 t o = [bt (i32 o)] ++ four (i32 (W 14 (20 * t + o))) := by unfold obV; rw [if_pos rfl]; rfl
          rw [ev]
          simp only [List.append_assoc] at s3 ⊢
          exact s3) (by omega) (by omega)
        refine ⟨C2, M2, ?_, s2⟩
        rw [← e2, ← e70, fX4_spellWritten_13]
        repeat (first
          | (with_reducible refine e_l1 ?_)
          | ((with_reducible refine e_k ?_ (kB h) ?_); focus rfl)
          | ((with_reducible refine e_p ?_ (p_s h) ?_); focus rfl)
          | ((with_reducible refine e_p ?_ (p_t h) ?_); focus rfl)
          | ((with_reducible refine e_p ?_ (p_l h) ?_); focus rfl)
          | ((with_reducible refine e_p ?_ (p_f h) ?_); focus rfl)
          | ((with_reducible refine e_k ?_ (kB h1) ?_); focus rfl)
          | ((with_reducible refine e_p ?_ (p_s h1) ?_); focus rfl)
          | ((with_reducible refine e_p ?_ (p_t h1) ?_); focus rfl)
          | ((with_reducible refine e_p ?_ (p_l h1) ?_); focus rfl)
          | ((with_reducible refine e_p ?_ (p_f h1) ?_); focus rfl)
          | ((with_reducible refine e_o2 ?_ eh ?_); focus (first | with_reducible rfl | (simp (disch := omega) only [b_all, sV_all, ↓reduceIte, Nat.reduceEqDiff, Nat.reduceLT, Nat.reduceLeDiff, Nat.reduceAdd, Nat.reduceMul, Nat.reduceSub, i_lit, eq_self, and_true, true_and, and_self, not_true_eq_false, not_false_eq_true, or_true, true_or, or_false, false_or, false_and, and_false, reduceCtorEq, Nat.add_left_cancel_iff, Nat.add_zero, Nat.zero_add, cd_all h, cd_all h1, k1, pp6, ka2, na2, va2]; done)))
          | ((with_reducible refine e_o2 ?_ e1 ?_); focus (first | with_reducible rfl | (simp (disch := omega) only [b_all, sV_all, ↓reduceIte, Nat.reduceEqDiff, Nat.reduceLT, Nat.reduceLeDiff, Nat.reduceAdd, Nat.reduceMul, Nat.reduceSub, i_lit, eq_self, and_true, true_and, and_self, not_true_eq_false, not_false_eq_true, or_true, true_or, or_false, false_or, false_and, and_false, reduceCtorEq, Nat.add_left_cancel_iff, Nat.add_zero, Nat.zero_add, cd_all h, cd_all h1, k1, pp6, ka2, na2, va2]; done)))
          | ((with_reducible refine e_o2 ?_ e3 ?_); focus (first | with_reducible rfl | (simp (disch := omega) only [b_all, sV_all, ↓reduceIte, Nat.reduceEqDiff, Nat.reduceLT, Nat.reduceLeDiff, Nat.reduceAdd, Nat.reduceMul, Nat.reduceSub, i_lit, eq_self, and_true, true_and, and_self, not_true_eq_false, not_false_eq_true, or_true, true_or, or_false, false_or, false_and, and_false, reduceCtorEq, Nat.add_left_cancel_iff, Nat.add_zero, Nat.zero_add, cd_all h, cd_all h1, k1, pp6, ka2, na2, va2]; done)))
          | ((with_reducible refine e_T ?_ eh ?_); focus (first | with_reducible rfl | (simp (disch := omega) only [b_all, sV_all, ↓reduceIte, Nat.reduceEqDiff, Nat.reduceLT, Nat.reduceLeDiff, Nat.reduceAdd, Nat.reduceMul, Nat.reduceSub, i_lit, eq_self, and_true, true_and, and_self, not_true_eq_false, not_false_eq_true, or_true, true_or, or_false, false_or, false_and, and_false, reduceCtorEq, Nat.add_left_cancel_iff, Nat.add_zero, Nat.zero_add, cd_all h, cd_all h1, k1, pp6, ka2, na2, va2]; done)))
          | ((with_reducible refine e_X ?_ eh ?_); focus (first | with_reducible rfl | (simp (disch := omega) only [b_all, sV_all, ↓reduceIte, Nat.reduceEqDiff, Nat.reduceLT, Nat.reduceLeDiff, Nat.reduceAdd, Nat.reduceMul, Nat.reduceSub, i_lit, eq_self, and_true, true_and, and_self, not_true_eq_false, not_false_eq_true, or_true, true_or, or_false, false_or, false_and, and_false, reduceCtorEq, Nat.add_left_cancel_iff, Nat.add_zero, Nat.zero_add, cd_all h, cd_all h1, k1, pp6, ka2, na2, va2]; done)))
          | ((with_reducible refine e_T ?_ e1 ?_); focus (first | with_reducible rfl | (simp (disch := omega) only [b_all, sV_all, ↓reduceIte, Nat.reduceEqDiff, Nat.reduceLT, Nat.reduceLeDiff, Nat.reduceAdd, Nat.reduceMul, Nat.reduceSub, i_lit, eq_self, and_true, true_and, and_self, not_true_eq_false, not_false_eq_true, or_true, true_or, or_false, false_or, false_and, and_false, reduceCtorEq, Nat.add_left_cancel_iff, Nat.add_zero, Nat.zero_add, cd_all h, cd_all h1, k1, pp6, ka2, na2, va2]; done)))
          | ((with_reducible refine e_X ?_ e1 ?_); focus (first | with_reducible rfl | (simp (disch := omega) only [b_all, sV_all, ↓reduceIte, Nat.reduceEqDiff, Nat.reduceLT, Nat.reduceLeDiff, Nat.reduceAdd, Nat.reduceMul, Nat.reduceSub, i_lit, eq_self, and_true, true_and, and_self, not_true_eq_false, not_false_eq_true, or_true, true_or, or_false, false_or, false_and, and_false, reduceCtorEq, Nat.add_left_cancel_iff, Nat.add_zero, Nat.zero_add, cd_all h, cd_all h1, k1, pp6, ka2, na2, va2]; done)))
          | ((with_reducible refine e_T ?_ e3 ?_); focus (first | with_reducible rfl | (simp (disch := omega) only [b_all, sV_all, ↓reduceIte, Nat.reduceEqDiff, Nat.reduceLT, Nat.reduceLeDiff, Nat.reduceAdd, Nat.reduceMul, Nat.reduceSub, i_lit, eq_self, and_true, true_and, and_self, not_true_eq_false, not_false_eq_true, or_true, true_or, or_false, false_or, false_and, and_false, reduceCtorEq, Nat.add_left_cancel_iff, Nat.add_zero, Nat.zero_add, cd_all h, cd_all h1, k1, pp6, ka2, na2, va2]; done)))
          | ((with_reducible refine e_X ?_ e3 ?_); focus (first | with_reducible rfl | (simp (disch := omega) only [b_all, sV_all, ↓reduceIte, Nat.reduceEqDiff, Nat.reduceLT, Nat.reduceLeDiff, Nat.reduceAdd, Nat.reduceMul, Nat.reduceSub, i_lit, eq_self, and_true, true_and, and_self, not_true_eq_false, not_false_eq_true, or_true, true_or, or_false, false_or, false_and, and_false, reduceCtorEq, Nat.add_left_cancel_iff, Nat.add_zero, Nat.zero_add, cd_all h, cd_all h1, k1, pp6, ka2, na2, va2]; done)))
          | ((with_reducible apply e_o1); focus (simp (disch := omega) only [b_all, sV_all, ↓reduceIte, Nat.reduceEqDiff, Nat.reduceLT, Nat.reduceLeDiff, Nat.reduceAdd, Nat.reduceMul, Nat.reduceSub, i_lit, eq_self, and_true, true_and, and_self, not_true_eq_false, not_false_eq_true, or_true, true_or, or_false, false_or, false_and, and_false, reduceCtorEq, Nat.add_left_cancel_iff, Nat.add_zero, Nat.zero_add, cd_all h, cd_all h1, k1, pp6, ka2, na2, va2]; first | done | rfl))
          | ((with_reducible refine e_ip ?_ ?_); focus (simp (disch := omega) only [b_all, sV_all, ↓reduceIte, Nat.reduceEqDiff, Nat.reduceLT, Nat.reduceLeDiff, Nat.reduceAdd, Nat.reduceMul, Nat.reduceSub, i_lit, eq_self, and_true, true_and, and_self, not_true_eq_false, not_false_eq_true, or_true, true_or, or_false, false_or, false_and, and_false, reduceCtorEq, Nat.add_left_cancel_iff, Nat.add_zero, Nat.zero_add, cd_all h, cd_all h1, k1, pp6, ka2, na2, va2]; done))
          | ((with_reducible refine e_in ?_ ?_); focus (simp (disch := omega) only [b_all, sV_all, ↓reduceIte, Nat.reduceEqDiff, Nat.reduceLT, Nat.reduceLeDiff, Nat.reduceAdd, Nat.reduceMul, Nat.reduceSub, i_lit, eq_self, and_true, true_and, and_self, not_true_eq_false, not_false_eq_true, or_true, true_or, or_false, false_or, false_and, and_false, reduceCtorEq, Nat.add_left_cancel_iff, Nat.add_zero, Nat.zero_add, cd_all h, cd_all h1, k1, pp6, ka2, na2, va2]; done))
          | unfold fX4_spellWritten_48
          | fail)
        first | with_reducible rfl | simp (disch := omega) only [b_all, sV_all, ↓reduceIte, Nat.reduceEqDiff, Nat.reduceLT, Nat.reduceLeDiff, Nat.reduceAdd, Nat.reduceMul, Nat.reduceSub, i_lit, eq_self, and_true, true_and, and_self, not_true_eq_false, not_false_eq_true, or_true, true_or, or_false, false_or, false_and, and_false, reduceCtorEq, Nat.add_left_cancel_iff, Nat.add_zero, Nat.zero_add, cd_all h, cd_all h1, k1, pp6, ka2, na2, va2]
      · rw [bp_f cp] at eh
        have pb : ¬ pB W 5 to t o := fun z => cp z.1
        obtain ⟨C2, M2, e2, s2⟩ := ih (o + 1) C' M (by rw [obB_f pb]; exact s) (by omega) (by omega)
        refine ⟨C2, M2, ?_, s2⟩
        rw [← e2, ← e70, fX4_spellWritten_13]
        repeat (first
          | (with_reducible refine e_l1 ?_)
          | ((with_reducible refine e_k ?_ (kB h) ?_); focus rfl)
          | ((with_reducible refine e_p ?_ (p_s h) ?_); focus rfl)
          | ((with_reducible refine e_p ?_ (p_t h) ?_); focus rfl)
          | ((with_reducible refine e_p ?_ (p_l h) ?_); focus rfl)
          | ((with_reducible refine e_p ?_ (p_f h) ?_); focus rfl)
          | ((with_reducible refine e_o2 ?_ eh ?_); focus (first | with_reducible rfl | (simp (disch := omega) only [b_all, sV_all, ↓reduceIte, Nat.reduceEqDiff, Nat.reduceLT, Nat.reduceLeDiff, Nat.reduceAdd, Nat.reduceMul, Nat.reduceSub, i_lit, eq_self, and_true, true_and, and_self, not_true_eq_false, not_false_eq_true, or_true, true_or, or_false, false_or, false_and, and_false, reduceCtorEq, Nat.add_left_cancel_iff, Nat.add_zero, Nat.zero_add, cd_all h]; done)))
          | ((with_reducible refine e_T ?_ eh ?_); focus (first | with_reducible rfl | (simp (disch := omega) only [b_all, sV_all, ↓reduceIte, Nat.reduceEqDiff, Nat.reduceLT, Nat.reduceLeDiff, Nat.reduceAdd, Nat.reduceMul, Nat.reduceSub, i_lit, eq_self, and_true, true_and, and_self, not_true_eq_false, not_false_eq_true, or_true, true_or, or_false, false_or, false_and, and_false, reduceCtorEq, Nat.add_left_cancel_iff, Nat.add_zero, Nat.zero_add, cd_all h]; done)))
          | ((with_reducible refine e_X ?_ eh ?_); focus (first | with_reducible rfl | (simp (disch := omega) only [b_all, sV_all, ↓reduceIte, Nat.reduceEqDiff, Nat.reduceLT, Nat.reduceLeDiff, Nat.reduceAdd, Nat.reduceMul, Nat.reduceSub, i_lit, eq_self, and_true, true_and, and_self, not_true_eq_false, not_false_eq_true, or_true, true_or, or_false, false_or, false_and, and_false, reduceCtorEq, Nat.add_left_cancel_iff, Nat.add_zero, Nat.zero_add, cd_all h]; done)))
          | ((with_reducible apply e_o1); focus (simp (disch := omega) only [b_all, sV_all, ↓reduceIte, Nat.reduceEqDiff, Nat.reduceLT, Nat.reduceLeDiff, Nat.reduceAdd, Nat.reduceMul, Nat.reduceSub, i_lit, eq_self, and_true, true_and, and_self, not_true_eq_false, not_false_eq_true, or_true, true_or, or_false, false_or, false_and, and_false, reduceCtorEq, Nat.add_left_cancel_iff, Nat.add_zero, Nat.zero_add, cd_all h]; first | done | rfl))
          | ((with_reducible refine e_ip ?_ ?_); focus (simp (disch := omega) only [b_all, sV_all, ↓reduceIte, Nat.reduceEqDiff, Nat.reduceLT, Nat.reduceLeDiff, Nat.reduceAdd, Nat.reduceMul, Nat.reduceSub, i_lit, eq_self, and_true, true_and, and_self, not_true_eq_false, not_false_eq_true, or_true, true_or, or_false, false_or, false_and, and_false, reduceCtorEq, Nat.add_left_cancel_iff, Nat.add_zero, Nat.zero_add, cd_all h]; done))
          | ((with_reducible refine e_in ?_ ?_); focus (simp (disch := omega) only [b_all, sV_all, ↓reduceIte, Nat.reduceEqDiff, Nat.reduceLT, Nat.reduceLeDiff, Nat.reduceAdd, Nat.reduceMul, Nat.reduceSub, i_lit, eq_self, and_true, true_and, and_self, not_true_eq_false, not_false_eq_true, or_true, true_or, or_false, false_or, false_and, and_false, reduceCtorEq, Nat.add_left_cancel_iff, Nat.add_zero, Nat.zero_add, cd_all h]; done))
          | unfold fX4_spellWritten_48
          | fail)
        first | with_reducible rfl | simp (disch := omega) only [b_all, sV_all, ↓reduceIte, Nat.reduceEqDiff, Nat.reduceLT, Nat.reduceLeDiff, Nat.reduceAdd, Nat.reduceMul, Nat.reduceSub, i_lit, eq_self, and_true, true_and, and_self, not_true_eq_false, not_false_eq_true, or_true, true_or, or_false, false_or, false_and, and_false, reduceCtorEq, Nat.add_left_cancel_iff, Nat.add_zero, Nat.zero_add, cd_all h]
theorem sp_wr (hk : 5000 ≤ k) (r : Rl C W) {t w to : Nat} (ht : t < W 0 5) (hw : w < 4294967296) {L : List Nat} (b : By L) (hl : L.length < 90) {C' : Ab} (s : Sp x B C W0 w L C' M) : ∃ C2 M2, fX4_spellWritten x k B (C 70 t) M = some ((), M2) ∧ Sp x B C W0 w (L ++ (ct (pB W 5 to t) 20 :: obB W 5 t (pB W 5 to t) 20)) C2 M2 := by
  have r' := s.rl r b (by omega) hw
  have h := s.1
  have e70 : C' 70 t = C 70 t := s.2.1.1 _ _ (by omega)
  have ht' := r'.c ht
  have hc := ct_le (pB W 5 to t) 20
  have ec : ct (wr W t) 20 = ct (pB W 5 to t) 20 := ct_congr 20 (fun o _ => ⟨fun z => ⟨z, fun y => by omega⟩, fun z => z.1⟩)
  have ew := c_wcnt (k := k) h r' ht
  rw [ec] at ew
  obtain ⟨C1, M1, e1, s1⟩ := sp_put (k := k) s b (by omega) hw (i32 (ct (pB W 5 to t) 20))
  rw [bt_n (by omega)] at s1
  obtain ⟨C2, M2, e2, s2⟩ := sp_wr13 (k := k) (to := to) r ht hw (L ++ [ct (pB W 5 to t) 20]) (b.app (By.one (by omega))) (by rw [List.length_append]; show _ + 1 < 100; omega) k 0 C1 M1 (by rw [show obB W 5 t (pB W 5 to t) 0 = [] from rfl, List.append_nil]; exact s1) (by omega) (by omega)
  rw [List.append_assoc] at s2
  refine ⟨C2, M2, ?_, s2⟩
  rw [← e2, ← e70]
  unfold fX4_spellWritten
  repeat (first
    | (with_reducible refine e_l1 ?_)
    | ((with_reducible refine e_k ?_ (kB h) ?_); focus rfl)
    | ((with_reducible refine e_p ?_ (p_s h) ?_); focus rfl)
    | ((with_reducible refine e_p ?_ (p_t h) ?_); focus rfl)
    | ((with_reducible refine e_p ?_ (p_l h) ?_); focus rfl)
    | ((with_reducible refine e_p ?_ (p_f h) ?_); focus rfl)
    | ((with_reducible refine e_o2 ?_ ew ?_); focus (first | with_reducible rfl | (simp (disch := omega) only [b_all, sV_all, ↓reduceIte, Nat.reduceEqDiff, Nat.reduceLT, Nat.reduceLeDiff, Nat.reduceAdd, Nat.reduceMul, Nat.reduceSub, i_lit, eq_self, and_true, true_and, and_self, not_true_eq_false, not_false_eq_true, or_true, true_or, or_false, false_or, false_and, and_false, reduceCtorEq, Nat.add_left_cancel_iff, Nat.add_zero, Nat.zero_add, cd_all h]; done)))
    | ((with_reducible refine e_o2 ?_ e1 ?_); focus (first | with_reducible rfl | (simp (disch := omega) only [b_all, sV_all, ↓reduceIte, Nat.reduceEqDiff, Nat.reduceLT, Nat.reduceLeDiff, Nat.reduceAdd, Nat.reduceMul, Nat.reduceSub, i_lit, eq_self, and_true, true_and, and_self, not_true_eq_false, not_false_eq_true, or_true, true_or, or_false, false_or, false_and, and_false, reduceCtorEq, Nat.add_left_cancel_iff, Nat.add_zero, Nat.zero_add, cd_all h]; done)))
    | ((with_reducible refine e_T ?_ ew ?_); focus (first | with_reducible rfl | (simp (disch := omega) only [b_all, sV_all, ↓reduceIte, Nat.reduceEqDiff, Nat.reduceLT, Nat.reduceLeDiff, Nat.reduceAdd, Nat.reduceMul, Nat.reduceSub, i_lit, eq_self, and_true, true_and, and_self, not_true_eq_false, not_false_eq_true, or_true, true_or, or_false, false_or, false_and, and_false, reduceCtorEq, Nat.add_left_cancel_iff, Nat.add_zero, Nat.zero_add, cd_all h]; done)))
    | ((with_reducible refine e_X ?_ ew ?_); focus (first | with_reducible rfl | (simp (disch := omega) only [b_all, sV_all, ↓reduceIte, Nat.reduceEqDiff, Nat.reduceLT, Nat.reduceLeDiff, Nat.reduceAdd, Nat.reduceMul, Nat.reduceSub, i_lit, eq_self, and_true, true_and, and_self, not_true_eq_false, not_false_eq_true, or_true, true_or, or_false, false_or, false_and, and_false, reduceCtorEq, Nat.add_left_cancel_iff, Nat.add_zero, Nat.zero_add, cd_all h]; done)))
    | ((with_reducible refine e_T ?_ e1 ?_); focus (first | with_reducible rfl | (simp (disch := omega) only [b_all, sV_all, ↓reduceIte, Nat.reduceEqDiff, Nat.reduceLT, Nat.reduceLeDiff, Nat.reduceAdd, Nat.reduceMul, Nat.reduceSub, i_lit, eq_self, and_true, true_and, and_self, not_true_eq_false, not_false_eq_true, or_true, true_or, or_false, false_or, false_and, and_false, reduceCtorEq, Nat.add_left_cancel_iff, Nat.add_zero, Nat.zero_add, cd_all h]; done)))
    | ((with_reducible refine e_X ?_ e1 ?_); focus (first | with_reducible rfl | (simp (disch := omega) only [b_all, sV_all, ↓reduceIte, Nat.reduceEqDiff, Nat.reduceLT, Nat.reduceLeDiff, Nat.reduceAdd, Nat.reduceMul, Nat.reduceSub, i_lit, eq_self, and_true, true_and, and_self, not_true_eq_false, not_false_eq_true, or_true, true_or, or_false, false_or, false_and, and_false, reduceCtorEq, Nat.add_left_cancel_iff, Nat.add_zero, Nat.zero_add, cd_all h]; done)))
    | ((with_reducible apply e_o1); focus (simp (disch := omega) only [b_all, sV_all, ↓reduceIte, Nat.reduceEqDiff, Nat.reduceLT, Nat.reduceLeDiff, Nat.reduceAdd, Nat.reduceMul, Nat.reduceSub, i_lit, eq_self, and_true, true_and, and_self, not_true_eq_false, not_false_eq_true, or_true, true_or, or_false, false_or, false_and, and_false, reduceCtorEq, Nat.add_left_cancel_iff, Nat.add_zero, Nat.zero_add, cd_all h]; first | done | rfl))
    | ((with_reducible refine e_ip ?_ ?_); focus (simp (disch := omega) only [b_all, sV_all, ↓reduceIte, Nat.reduceEqDiff, Nat.reduceLT, Nat.reduceLeDiff, Nat.reduceAdd, Nat.reduceMul, Nat.reduceSub, i_lit, eq_self, and_true, true_and, and_self, not_true_eq_false, not_false_eq_true, or_true, true_or, or_false, false_or, false_and, and_false, reduceCtorEq, Nat.add_left_cancel_iff, Nat.add_zero, Nat.zero_add, cd_all h]; done))
    | ((with_reducible refine e_in ?_ ?_); focus (simp (disch := omega) only [b_all, sV_all, ↓reduceIte, Nat.reduceEqDiff, Nat.reduceLT, Nat.reduceLeDiff, Nat.reduceAdd, Nat.reduceMul, Nat.reduceSub, i_lit, eq_self, and_true, true_and, and_self, not_true_eq_false, not_false_eq_true, or_true, true_or, or_false, false_or, false_and, and_false, reduceCtorEq, Nat.add_left_cancel_iff, Nat.add_zero, Nat.zero_add, cd_all h]; done))
    | fail)
  first | with_reducible rfl | simp (disch := omega) only [b_all, sV_all, ↓reduceIte, Nat.reduceEqDiff, Nat.reduceLT, Nat.reduceLeDiff, Nat.reduceAdd, Nat.reduceMul, Nat.reduceSub, i_lit, eq_self, and_true, true_and, and_self, not_true_eq_false, not_false_eq_true, or_true, true_or, or_false, false_or, false_and, and_false, reduceCtorEq, Nat.add_left_cancel_iff, Nat.add_zero, Nat.zero_add, cd_all h]
theorem sp_ch13 (r : Rl C W) {t w : Nat} (ht : t < W 0 5) (hw : w < 4294967296) (L : List Nat) (b : By L) (hl : L.length < 240) : ∀ n j C' M, Sp x B C W0 w (L ++ chB W t j) C' M → j ≤ W 17 t → W 17 t < n + j → ∃ C2 M2, fX4_spellChanges_13 x k n B (C 70 t) (i32 j) M = some ((), M2) ∧ Sp x B C W0 w (L ++ chB W t (W 17 t)) C2 M2 := by
  have h17 := r.b17 ht
  intro n
  induction n with
  | zero => intro j C' M _ h1 h2; omega
  | succ n ih =>
    intro j C' M s hj hn
    have sl := chB_l W t j
    have r' := s.rl r (b.app sl.2) (by rw [List.length_append]; omega) hw
    have h := s.1
    have e70 : C' 70 t = C 70 t := s.2.1.1 _ _ (by omega)
    have ht' := r'.c ht
    have e7 := (r'.t ht).1.2.2.2.2.1
    rw [← e70]
    by_cases c : W 17 t ≤ j
    · obtain rfl : j = W 17 t := by omega
      refine ⟨C', M, ?_, s⟩
      rw [fX4_spellChanges_13]
      repeat (first
        | (with_reducible refine e_l1 ?_)
        | ((with_reducible refine e_k ?_ (kB h) ?_); focus rfl)
        | ((with_reducible refine e_p ?_ (p_s h) ?_); focus rfl)
        | ((with_reducible refine e_p ?_ (p_t h) ?_); focus rfl)
        | ((with_reducible refine e_p ?_ (p_l h) ?_); focus rfl)
        | ((with_reducible refine e_p ?_ (p_f h) ?_); focus rfl)
        | ((with_reducible apply e_o1); focus (simp (disch := omega) only [b_all, sV_all, ↓reduceIte, Nat.reduceEqDiff, Nat.reduceLT, Nat.reduceLeDiff, Nat.reduceAdd, Nat.reduceMul, Nat.reduceSub, i_lit, eq_self, and_true, true_and, and_self, not_true_eq_false, not_false_eq_true, or_true, true_or, or_false, false_or, false_and, and_false, reduceCtorEq, Nat.add_left_cancel_iff, Nat.add_zero, Nat.zero_add, cd_all h, e7]; first | done | rfl))
        | ((with_reducible refine e_ip ?_ ?_); focus (simp (disch := omega) only [b_all, sV_all, ↓reduceIte, Nat.reduceEqDiff, Nat.reduceLT, Nat.reduceLeDiff, Nat.reduceAdd, Nat.reduceMul, Nat.reduceSub, i_lit, eq_self, and_true, true_and, and_self, not_true_eq_false, not_false_eq_true, or_true, true_or, or_false, false_or, false_and, and_false, reduceCtorEq, Nat.add_left_cancel_iff, Nat.add_zero, Nat.zero_add, cd_all h, e7]; done))
        | ((with_reducible refine e_in ?_ ?_); focus (simp (disch := omega) only [b_all, sV_all, ↓reduceIte, Nat.reduceEqDiff, Nat.reduceLT, Nat.reduceLeDiff, Nat.reduceAdd, Nat.reduceMul, Nat.reduceSub, i_lit, eq_self, and_true, true_and, and_self, not_true_eq_false, not_false_eq_true, or_true, true_or, or_false, false_or, false_and, and_false, reduceCtorEq, Nat.add_left_cancel_iff, Nat.add_zero, Nat.zero_add, cd_all h, e7]; done))
        | fail)
      first | with_reducible rfl | simp (disch := omega) only [b_all, sV_all, ↓reduceIte, Nat.reduceEqDiff, Nat.reduceLT, Nat.reduceLeDiff, Nat.reduceAdd, Nat.reduceMul, Nat.reduceSub, i_lit, eq_self, and_true, true_and, and_self, not_true_eq_false, not_false_eq_true, or_true, true_or, or_false, false_or, false_and, and_false, reduceCtorEq, Nat.add_left_cancel_iff, Nat.add_zero, Nat.zero_add, cd_all h, e7]
    · obtain ⟨e15, -⟩ := (r'.t ht).2.2.2.1 j (by omega)
      obtain ⟨C1, M1, e1, s1⟩ := sp_put (k := k) s (b.app sl.2) (by rw [List.length_append]; omega) hw (i32 (W 15 (20 * t + j)))
      have r1 := s1.rl r ((b.app sl.2).app (By.one (bt_lt _))) (by rw [List.length_append, List.length_append]; show _ + 1 < 300; omega) hw
      have h1 := s1.1
      have e70' : C1 70 t = C' 70 t := by rw [s1.2.1.1 _ _ (by omega), e70]
      obtain ⟨-, e16⟩ := (r1.t ht).2.2.2.1 j (by omega)
      obtain ⟨k1, v1, pp1, -⟩ := tk h1 (r1.c ht) e70'
      have ka4 : mK M1 (C' 70 t + 4) = 8 := by rw [← e70']; exact kT4 h1 (r1.c ht)
      have na4 : mN M1 (C' 70 t + 4) = 20 := by rw [← e70']; exact nT4 h1 (r1.c ht)
      have va4 : mV M1 (C' 70 t + 4) j = i32 (W 16 (20 * t + j)) := by rw [← e70', cvT4 h1 (r1.c ht), e16]
      have pp9 := pp1.2.2.2
      obtain ⟨C3, M3, e3, s3⟩ := sp_put (k := k) s1 ((b.app sl.2).app (By.one (bt_lt _))) (by rw [List.length_append, List.length_append]; show _ + 1 < 299; omega) hw (i32 (W 16 (20 * t + j)))
      obtain ⟨C2, M2, e2, s2⟩ := ih (j + 1) C3 M3 (by rw [List.append_assoc, List.append_assoc] at s3; exact s3) (by omega) (by omega)
      refine ⟨C2, M2, ?_, s2⟩
      rw [← e2, ← e70, fX4_spellChanges_13]
      repeat (first
        | (with_reducible refine e_l1 ?_)
        | ((with_reducible refine e_k ?_ (kB h) ?_); focus rfl)
        | ((with_reducible refine e_p ?_ (p_s h) ?_); focus rfl)
        | ((with_reducible refine e_p ?_ (p_t h) ?_); focus rfl)
        | ((with_reducible refine e_p ?_ (p_l h) ?_); focus rfl)
        | ((with_reducible refine e_p ?_ (p_f h) ?_); focus rfl)
        | ((with_reducible refine e_k ?_ (kB h1) ?_); focus rfl)
        | ((with_reducible refine e_p ?_ (p_s h1) ?_); focus rfl)
        | ((with_reducible refine e_p ?_ (p_t h1) ?_); focus rfl)
        | ((with_reducible refine e_p ?_ (p_l h1) ?_); focus rfl)
        | ((with_reducible refine e_p ?_ (p_f h1) ?_); focus rfl)
        | ((with_reducible refine e_o2 ?_ e1 ?_); focus (first | with_reducible rfl | (simp (disch := omega) only [b_all, sV_all, ↓reduceIte, Nat.reduceEqDiff, Nat.reduceLT, Nat.reduceLeDiff, Nat.reduceAdd, Nat.reduceMul, Nat.reduceSub, i_lit, eq_self, and_true, true_and, and_self, not_true_eq_false, not_false_eq_true, or_true, true_or, or_false, false_or, false_and, and_false, reduceCtorEq, Nat.add_left_cancel_iff, Nat.add_zero, Nat.zero_add, cd_all h, cd_all h1, e7, e15, k1, pp9, ka4, na4, va4]; done)))
        | ((with_reducible refine e_o2 ?_ e3 ?_); focus (first | with_reducible rfl | (simp (disch := omega) only [b_all, sV_all, ↓reduceIte, Nat.reduceEqDiff, Nat.reduceLT, Nat.reduceLeDiff, Nat.reduceAdd, Nat.reduceMul, Nat.reduceSub, i_lit, eq_self, and_true, true_and, and_self, not_true_eq_false, not_false_eq_true, or_true, true_or, or_false, false_or, false_and, and_false, reduceCtorEq, Nat.add_left_cancel_iff, Nat.add_zero, Nat.zero_add, cd_all h, cd_all h1, e7, e15, k1, pp9, ka4, na4, va4]; done)))
        | ((with_reducible refine e_T ?_ e1 ?_); focus (first | with_reducible rfl | (simp (disch := omega) only [b_all, sV_all, ↓reduceIte, Nat.reduceEqDiff, Nat.reduceLT, Nat.reduceLeDiff, Nat.reduceAdd, Nat.reduceMul, Nat.reduceSub, i_lit, eq_self, and_true, true_and, and_self, not_true_eq_false, not_false_eq_true, or_true, true_or, or_false, false_or, false_and, and_false, reduceCtorEq, Nat.add_left_cancel_iff, Nat.add_zero, Nat.zero_add, cd_all h, cd_all h1, e7, e15, k1, pp9, ka4, na4, va4]; done)))
        | ((with_reducible refine e_X ?_ e1 ?_); focus (first | with_reducible rfl | (simp (disch := omega) only [b_all, sV_all, ↓reduceIte, Nat.reduceEqDiff, Nat.reduceLT, Nat.reduceLeDiff, Nat.reduceAdd, Nat.reduceMul, Nat.reduceSub, i_lit, eq_self, and_true, true_and, and_self, not_true_eq_false, not_false_eq_true, or_true, true_or, or_false, false_or, false_and, and_false, reduceCtorEq, Nat.add_left_cancel_iff, Nat.add_zero, Nat.zero_add, cd_all h, cd_all h1, e7, e15, k1, pp9, ka4, na4, va4]; done)))
        | ((with_reducible refine e_T ?_ e3 ?_); focus (first | with_reducible rfl | (simp (disch := omega) only [b_all, sV_all, ↓reduceIte, Nat.reduceEqDiff, Nat.reduceLT, Nat.reduceLeDiff, Nat.reduceAdd, Nat.reduceMul, Nat.reduceSub, i_lit, eq_self, and_true, true_and, and_self, not_true_eq_false, not_false_eq_true, or_true, true_or, or_false, false_or, false_and, and_false, reduceCtorEq, Nat.add_left_cancel_iff, Nat.add_zero, Nat.zero_add, cd_all h, cd_all h1, e7, e15, k1, pp9, ka4, na4, va4]; done)))
        | ((with_reducible refine e_X ?_ e3 ?_); focus (first | with_reducible rfl | (simp (disch := omega) only [b_all, sV_all, ↓reduceIte, Nat.reduceEqDiff, Nat.reduceLT, Nat.reduceLeDiff, Nat.reduceAdd, Nat.reduceMul, Nat.reduceSub, i_lit, eq_self, and_true, true_and, and_self, not_true_eq_false, not_false_eq_true, or_true, true_or, or_false, false_or, false_and, and_false, reduceCtorEq, Nat.add_left_cancel_iff, Nat.add_zero, Nat.zero_add, cd_all h, cd_all h1, e7, e15, k1, pp9, ka4, na4, va4]; done)))
        | ((with_reducible apply e_o1); focus (simp (disch := omega) only [b_all, sV_all, ↓reduceIte, Nat.reduceEqDiff, Nat.reduceLT, Nat.reduceLeDiff, Nat.reduceAdd, Nat.reduceMul, Nat.reduceSub, i_lit, eq_self, and_true, true_and, and_self, not_true_eq_false, not_false_eq_true, or_true, true_or, or_false, false_or, false_and, and_false, reduceCtorEq, Nat.add_left_cancel_iff, Nat.add_zero, Nat.zero_add, cd_all h, cd_all h1, e7, e15, k1, pp9, ka4, na4, va4]; first | done | rfl))
        | ((with_reducible refine e_ip ?_ ?_); focus (simp (disch := omega) only [b_all, sV_all, ↓reduceIte, Nat.reduceEqDiff, Nat.reduceLT, Nat.reduceLeDiff, Nat.reduceAdd, Nat.reduceMul, Nat.reduceSub, i_lit, eq_self, and_true, true_and, and_self, not_true_eq_false, not_false_eq_true, or_true, true_or, or_false, false_or, false_and, and_false, reduceCtorEq, Nat.add_left_cancel_iff, Nat.add_zero, Nat.zero_add, cd_all h, cd_all h1, e7, e15, k1, pp9, ka4, na4, va4]; done))
        | ((with_reducible refine e_in ?_ ?_); focus (simp (disch := omega) only [b_all, sV_all, ↓reduceIte, Nat.reduceEqDiff, Nat.reduceLT, Nat.reduceLeDiff, Nat.reduceAdd, Nat.reduceMul, Nat.reduceSub, i_lit, eq_self, and_true, true_and, and_self, not_true_eq_false, not_false_eq_true, or_true, true_or, or_false, false_or, false_and, and_false, reduceCtorEq, Nat.add_left_cancel_iff, Nat.add_zero, Nat.zero_add, cd_all h, cd_all h1, e7, e15, k1, pp9, ka4, na4, va4]; done))
        | fail)
      first | with_reducible rfl | simp (disch := omega) only [b_all, sV_all, ↓reduceIte, Nat.reduceEqDiff, Nat.reduceLT, Nat.reduceLeDiff, Nat.reduceAdd, Nat.reduceMul, Nat.reduceSub, i_lit, eq_self, and_true, true_and, and_self, not_true_eq_false, not_false_eq_true, or_true, true_or, or_false, false_or, false_and, and_false, reduceCtorEq, Nat.add_left_cancel_iff, Nat.add_zero, Nat.zero_add, cd_all h, cd_all h1, e7, e15, k1, pp9, ka4, na4, va4]
theorem sp_ch (hk : 5000 ≤ k) (r : Rl C W) {t w : Nat} (ht : t < W 0 5) (hw : w < 4294967296) {L : List Nat} (b : By L) (hl : L.length < 230) {C' : Ab} (s : Sp x B C W0 w L C' M) : ∃ C2 M2, fX4_spellChanges x k B (C 70 t) M = some ((), M2) ∧ Sp x B C W0 w (L ++ (bt (i32 (W 17 t)) :: chB W t (W 17 t))) C2 M2 := by
  have h17 := r.b17 ht
  have r' := s.rl r b (by omega) hw
  have h := s.1
  have e70 : C' 70 t = C 70 t := s.2.1.1 _ _ (by omega)
  have ht' := r'.c ht
  have e7 := (r'.t ht).1.2.2.2.2.1
  obtain ⟨C1, M1, e1, s1⟩ := sp_put (k := k) s b (by omega) hw (i32 (W 17 t))
  obtain ⟨C2, M2, e2, s2⟩ := sp_ch13 (k := k) r ht hw (L ++ [bt (i32 (W 17 t))]) (b.app (By.one (bt_lt _))) (by rw [List.length_append]; show _ + 1 < 240; omega) k 0 C1 M1 (by rw [show chB W t 0 = [] from rfl, List.append_nil]; exact s1) (by omega) (by omega)
  rw [List.append_assoc] at s2
  refine ⟨C2, M2, ?_, s2⟩
  rw [← e2, ← e70]
  unfold fX4_spellChanges
  repeat (first
    | (with_reducible refine e_l1 ?_)
    | ((with_reducible refine e_k ?_ (kB h) ?_); focus rfl)
    | ((with_reducible refine e_p ?_ (p_s h) ?_); focus rfl)
    | ((with_reducible refine e_p ?_ (p_t h) ?_); focus rfl)
    | ((with_reducible refine e_p ?_ (p_l h) ?_); focus rfl)
    | ((with_reducible refine e_p ?_ (p_f h) ?_); focus rfl)
    | ((with_reducible refine e_o2 ?_ e1 ?_); focus (first | with_reducible rfl | (simp (disch := omega) only [b_all, sV_all, ↓reduceIte, Nat.reduceEqDiff, Nat.reduceLT, Nat.reduceLeDiff, Nat.reduceAdd, Nat.reduceMul, Nat.reduceSub, i_lit, eq_self, and_true, true_and, and_self, not_true_eq_false, not_false_eq_true, or_true, true_or, or_false, false_or, false_and, and_false, reduceCtorEq, Nat.add_left_cancel_iff, Nat.add_zero, Nat.zero_add, cd_all h, e7]; done)))
    | ((with_reducible refine e_T ?_ e1 ?_); focus (first | with_reducible rfl | (simp (disch := omega) only [b_all, sV_all, ↓reduceIte, Nat.reduceEqDiff, Nat.reduceLT, Nat.reduceLeDiff, Nat.reduceAdd, Nat.reduceMul, Nat.reduceSub, i_lit, eq_self, and_true, true_and, and_self, not_true_eq_false, not_false_eq_true, or_true, true_or, or_false, false_or, false_and, and_false, reduceCtorEq, Nat.add_left_cancel_iff, Nat.add_zero, Nat.zero_add, cd_all h, e7]; done)))
    | ((with_reducible refine e_X ?_ e1 ?_); focus (first | with_reducible rfl | (simp (disch := omega) only [b_all, sV_all, ↓reduceIte, Nat.reduceEqDiff, Nat.reduceLT, Nat.reduceLeDiff, Nat.reduceAdd, Nat.reduceMul, Nat.reduceSub, i_lit, eq_self, and_true, true_and, and_self, not_true_eq_false, not_false_eq_true, or_true, true_or, or_false, false_or, false_and, and_false, reduceCtorEq, Nat.add_left_cancel_iff, Nat.add_zero, Nat.zero_add, cd_all h, e7]; done)))
    | ((with_reducible apply e_o1); focus (simp (disch := omega) only [b_all, sV_all, ↓reduceIte, Nat.reduceEqDiff, Nat.reduceLT, Nat.reduceLeDiff, Nat.reduceAdd, Nat.reduceMul, Nat.reduceSub, i_lit, eq_self, and_true, true_and, and_self, not_true_eq_false, not_false_eq_true, or_true, true_or, or_false, false_or, false_and, and_false, reduceCtorEq, Nat.add_left_cancel_iff, Nat.add_zero, Nat.zero_add, cd_all h, e7]; first | done | rfl))
    | ((with_reducible refine e_ip ?_ ?_); focus (simp (disch := omega) only [b_all, sV_all, ↓reduceIte, Nat.reduceEqDiff, Nat.reduceLT, Nat.reduceLeDiff, Nat.reduceAdd, Nat.reduceMul, Nat.reduceSub, i_lit, eq_self, and_true, true_and, and_self, not_true_eq_false, not_false_eq_true, or_true, true_or, or_false, false_or, false_and, and_false, reduceCtorEq, Nat.add_left_cancel_iff, Nat.add_zero, Nat.zero_add, cd_all h, e7]; done))
    | ((with_reducible refine e_in ?_ ?_); focus (simp (disch := omega) only [b_all, sV_all, ↓reduceIte, Nat.reduceEqDiff, Nat.reduceLT, Nat.reduceLeDiff, Nat.reduceAdd, Nat.reduceMul, Nat.reduceSub, i_lit, eq_self, and_true, true_and, and_self, not_true_eq_false, not_false_eq_true, or_true, true_or, or_false, false_or, false_and, and_false, reduceCtorEq, Nat.add_left_cancel_iff, Nat.add_zero, Nat.zero_add, cd_all h, e7]; done))
    | fail)
  first | with_reducible rfl | simp (disch := omega) only [b_all, sV_all, ↓reduceIte, Nat.reduceEqDiff, Nat.reduceLT, Nat.reduceLeDiff, Nat.reduceAdd, Nat.reduceMul, Nat.reduceSub, i_lit, eq_self, and_true, true_and, and_self, not_true_eq_false, not_false_eq_true, or_true, true_or, or_false, false_or, false_and, and_false, reduceCtorEq, Nat.add_left_cancel_iff, Nat.add_zero, Nat.zero_add, cd_all h, e7]
theorem sp_end {C' : Ab} {w : Nat} {L : List Nat} (s : Sp x B C W0 w L C' M) (b : By L) (hl : L.length < 290) (hw : w < 4294967296) : ∃ C2 M2, fX4_spell_103 x k B M = some ((), M2) ∧ Sp x B C W0 w (L ++ two (i32 (chk L))) C2 M2 := by
  obtain ⟨C2, M2, e2, s2⟩ := sp_two (k := k) s b (by omega) hw (i32 (chk L))
  refine ⟨C2, M2, ?_, s2⟩
  have h := s.1
  have p2 := s.2.1.2.2.2.1
  have e3 : fX0_putCheck x k (B + 24) M = some ((), M2) := by
    unfold fX0_putCheck
    repeat (first
      | (with_reducible refine e_l1 ?_)
      | ((with_reducible refine e_k ?_ (kB h) ?_); focus rfl)
      | ((with_reducible refine e_p ?_ (p_s h) ?_); focus rfl)
      | ((with_reducible refine e_p ?_ (p_t h) ?_); focus rfl)
      | ((with_reducible refine e_p ?_ (p_l h) ?_); focus rfl)
      | ((with_reducible refine e_p ?_ (p_f h) ?_); focus rfl)
      | ((with_reducible refine e_o2 ?_ e2 ?_); focus (first | with_reducible rfl | (simp (disch := omega) only [b_all, sV_all, ↓reduceIte, Nat.reduceEqDiff, Nat.reduceLT, Nat.reduceLeDiff, Nat.reduceAdd, Nat.reduceMul, Nat.reduceSub, i_lit, eq_self, and_true, true_and, and_self, not_true_eq_false, not_false_eq_true, or_true, true_or, or_false, false_or, false_and, and_false, reduceCtorEq, Nat.add_left_cancel_iff, Nat.add_zero, Nat.zero_add, cd_all h, p2]; done)))
      | ((with_reducible refine e_T ?_ e2 ?_); focus (first | with_reducible rfl | (simp (disch := omega) only [b_all, sV_all, ↓reduceIte, Nat.reduceEqDiff, Nat.reduceLT, Nat.reduceLeDiff, Nat.reduceAdd, Nat.reduceMul, Nat.reduceSub, i_lit, eq_self, and_true, true_and, and_self, not_true_eq_false, not_false_eq_true, or_true, true_or, or_false, false_or, false_and, and_false, reduceCtorEq, Nat.add_left_cancel_iff, Nat.add_zero, Nat.zero_add, cd_all h, p2]; done)))
      | ((with_reducible refine e_X ?_ e2 ?_); focus (first | with_reducible rfl | (simp (disch := omega) only [b_all, sV_all, ↓reduceIte, Nat.reduceEqDiff, Nat.reduceLT, Nat.reduceLeDiff, Nat.reduceAdd, Nat.reduceMul, Nat.reduceSub, i_lit, eq_self, and_true, true_and, and_self, not_true_eq_false, not_false_eq_true, or_true, true_or, or_false, false_or, false_and, and_false, reduceCtorEq, Nat.add_left_cancel_iff, Nat.add_zero, Nat.zero_add, cd_all h, p2]; done)))
      | ((with_reducible apply e_o1); focus (simp (disch := omega) only [b_all, sV_all, ↓reduceIte, Nat.reduceEqDiff, Nat.reduceLT, Nat.reduceLeDiff, Nat.reduceAdd, Nat.reduceMul, Nat.reduceSub, i_lit, eq_self, and_true, true_and, and_self, not_true_eq_false, not_false_eq_true, or_true, true_or, or_false, false_or, false_and, and_false, reduceCtorEq, Nat.add_left_cancel_iff, Nat.add_zero, Nat.zero_add, cd_all h, p2]; first | done | rfl))
      | ((with_reducible refine e_ip ?_ ?_); focus (simp (disch := omega) only [b_all, sV_all, ↓reduceIte, Nat.reduceEqDiff, Nat.reduceLT, Nat.reduceLeDiff, Nat.reduceAdd, Nat.reduceMul, Nat.reduceSub, i_lit, eq_self, and_true, true_and, and_self, not_true_eq_false, not_false_eq_true, or_true, true_or, or_false, false_or, false_and, and_false, reduceCtorEq, Nat.add_left_cancel_iff, Nat.add_zero, Nat.zero_add, cd_all h, p2]; done))
      | ((with_reducible refine e_in ?_ ?_); focus (simp (disch := omega) only [b_all, sV_all, ↓reduceIte, Nat.reduceEqDiff, Nat.reduceLT, Nat.reduceLeDiff, Nat.reduceAdd, Nat.reduceMul, Nat.reduceSub, i_lit, eq_self, and_true, true_and, and_self, not_true_eq_false, not_false_eq_true, or_true, true_or, or_false, false_or, false_and, and_false, reduceCtorEq, Nat.add_left_cancel_iff, Nat.add_zero, Nat.zero_add, cd_all h, p2]; done))
      | fail)
    first | with_reducible rfl | simp (disch := omega) only [b_all, sV_all, ↓reduceIte, Nat.reduceEqDiff, Nat.reduceLT, Nat.reduceLeDiff, Nat.reduceAdd, Nat.reduceMul, Nat.reduceSub, i_lit, eq_self, and_true, true_and, and_self, not_true_eq_false, not_false_eq_true, or_true, true_or, or_false, false_or, false_and, and_false, reduceCtorEq, Nat.add_left_cancel_iff, Nat.add_zero, Nat.zero_add, cd_all h, p2]
  unfold fX4_spell_103
  repeat (first
    | (with_reducible refine e_l1 ?_)
    | ((with_reducible refine e_k ?_ (kB h) ?_); focus rfl)
    | ((with_reducible refine e_p ?_ (p_s h) ?_); focus rfl)
    | ((with_reducible refine e_p ?_ (p_t h) ?_); focus rfl)
    | ((with_reducible refine e_p ?_ (p_l h) ?_); focus rfl)
    | ((with_reducible refine e_p ?_ (p_f h) ?_); focus rfl)
    | ((with_reducible refine e_o2 ?_ e3 ?_); focus (first | with_reducible rfl | (simp (disch := omega) only [b_all, sV_all, ↓reduceIte, Nat.reduceEqDiff, Nat.reduceLT, Nat.reduceLeDiff, Nat.reduceAdd, Nat.reduceMul, Nat.reduceSub, i_lit, eq_self, and_true, true_and, and_self, not_true_eq_false, not_false_eq_true, or_true, true_or, or_false, false_or, false_and, and_false, reduceCtorEq, Nat.add_left_cancel_iff, Nat.add_zero, Nat.zero_add, cd_all h]; done)))
    | ((with_reducible refine e_T ?_ e3 ?_); focus (first | with_reducible rfl | (simp (disch := omega) only [b_all, sV_all, ↓reduceIte, Nat.reduceEqDiff, Nat.reduceLT, Nat.reduceLeDiff, Nat.reduceAdd, Nat.reduceMul, Nat.reduceSub, i_lit, eq_self, and_true, true_and, and_self, not_true_eq_false, not_false_eq_true, or_true, true_or, or_false, false_or, false_and, and_false, reduceCtorEq, Nat.add_left_cancel_iff, Nat.add_zero, Nat.zero_add, cd_all h]; done)))
    | ((with_reducible refine e_X ?_ e3 ?_); focus (first | with_reducible rfl | (simp (disch := omega) only [b_all, sV_all, ↓reduceIte, Nat.reduceEqDiff, Nat.reduceLT, Nat.reduceLeDiff, Nat.reduceAdd, Nat.reduceMul, Nat.reduceSub, i_lit, eq_self, and_true, true_and, and_self, not_true_eq_false, not_false_eq_true, or_true, true_or, or_false, false_or, false_and, and_false, reduceCtorEq, Nat.add_left_cancel_iff, Nat.add_zero, Nat.zero_add, cd_all h]; done)))
    | ((with_reducible apply e_o1); focus (simp (disch := omega) only [b_all, sV_all, ↓reduceIte, Nat.reduceEqDiff, Nat.reduceLT, Nat.reduceLeDiff, Nat.reduceAdd, Nat.reduceMul, Nat.reduceSub, i_lit, eq_self, and_true, true_and, and_self, not_true_eq_false, not_false_eq_true, or_true, true_or, or_false, false_or, false_and, and_false, reduceCtorEq, Nat.add_left_cancel_iff, Nat.add_zero, Nat.zero_add, cd_all h]; first | done | rfl))
    | ((with_reducible refine e_ip ?_ ?_); focus (simp (disch := omega) only [b_all, sV_all, ↓reduceIte, Nat.reduceEqDiff, Nat.reduceLT, Nat.reduceLeDiff, Nat.reduceAdd, Nat.reduceMul, Nat.reduceSub, i_lit, eq_self, and_true, true_and, and_self, not_true_eq_false, not_false_eq_true, or_true, true_or, or_false, false_or, false_and, and_false, reduceCtorEq, Nat.add_left_cancel_iff, Nat.add_zero, Nat.zero_add, cd_all h]; done))
    | ((with_reducible refine e_in ?_ ?_); focus (simp (disch := omega) only [b_all, sV_all, ↓reduceIte, Nat.reduceEqDiff, Nat.reduceLT, Nat.reduceLeDiff, Nat.reduceAdd, Nat.reduceMul, Nat.reduceSub, i_lit, eq_self, and_true, true_and, and_self, not_true_eq_false, not_false_eq_true, or_true, true_or, or_false, false_or, false_and, and_false, reduceCtorEq, Nat.add_left_cancel_iff, Nat.add_zero, Nat.zero_add, cd_all h]; done))
    | fail)
  first | with_reducible rfl | simp (disch := omega) only [b_all, sV_all, ↓reduceIte, Nat.reduceEqDiff, Nat.reduceLT, Nat.reduceLeDiff, Nat.reduceAdd, Nat.reduceMul, Nat.reduceSub, i_lit, eq_self, and_true, true_and, and_self, not_true_eq_false, not_false_eq_true, or_true, true_or, or_false, false_or, false_and, and_false, reduceCtorEq, Nat.add_left_cancel_iff, Nat.add_zero, Nat.zero_add, cd_all h]
/-- a letter while the class spells -/
theorem sp_let {C' : Ab} {w : Nat} {L : List Nat} (r : Rl C W) (s : Sp x B C W0 w L C' M) {j : Nat} (hj : j < W 0 23) : mK M (C 71 j) = 2 ∧ ∀ q, q < 4 → mV M (C 71 j) q = i32 (W 20 (4 * j + q)) := by
  have h := s.1
  have f := s.2.1.1
  have e71 : C' 71 j = C 71 j := f _ _ (by omega)
  have hj' : j < C' 60 1 := by rw [f _ _ (by omega), r.s.2.2.2]; exact hj
  have hL := st_L h hj'
  rw [e71] at hL
  refine ⟨hL.2.1, fun q hq => ?_⟩
  have := st_l h j q hj'
  rw [e71, f _ _ (by omega), r.l j q hj hq] at this
  exact this
end
