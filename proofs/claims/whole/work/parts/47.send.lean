/-! Letters are sent -/
def lt4 (kd fr to t : Nat) (j : Nat) : Nat := if j = 0 then kd else if j = 1 then fr else if j = 2 then to else if j = 3 then t else 0
section
variable {x : Cx} {k B : Nat} {C W W0 : Ab} {M : Mm}
theorem c_room (h : St x B C W0 M) (hl : C 60 1 ≤ 300) : fX4_hasRoom x k B M = some (i32 (bp (C 60 1 < 300)), M) := by
  have e1 := c_size1 (k := k) h
  unfold fX4_hasRoom
  by_cases c : C 60 1 < 300
  · rw [bp_t c]
    repeat (first
      | (with_reducible refine e_l1 ?_)
      | ((with_reducible refine e_k ?_ (kB h) ?_); focus rfl)
      | ((with_reducible refine e_p ?_ (p_s h) ?_); focus rfl)
      | ((with_reducible refine e_p ?_ (p_t h) ?_); focus rfl)
      | ((with_reducible refine e_p ?_ (p_l h) ?_); focus rfl)
      | ((with_reducible refine e_p ?_ (p_f h) ?_); focus rfl)
      | ((with_reducible refine e_o2 ?_ e1 ?_); focus (first | with_reducible rfl | (simp (disch := omega) only [b_all, sV_all, ↓reduceIte, Nat.reduceEqDiff, Nat.reduceLT, Nat.reduceLeDiff, Nat.reduceAdd, Nat.reduceMul, Nat.reduceSub, i_lit, eq_self, and_true, true_and, and_self, not_true_eq_false, not_false_eq_true, or_true, true_or, or_false, false_or, false_and, and_false, reduceCtorEq, Nat.add_left_cancel_iff, Nat.add_zero, Nat.zero_add, cd_all h]; done)))
      | ((with_reducible refine e_T ?_ e1 ?_); focus (first | with_reducible rfl | (simp (disch := omega) only [b_all, sV_all, ↓reduceIte, Nat.reduceEqDiff, Nat.reduceLT, Nat.reduceLeDiff, Nat.reduceAdd, Nat.reduceMul, Nat.reduceSub, i_lit, eq_self, and_true, true_and, and_self, not_true_eq_false, not_false_eq_true, or_true, true_or, or_false, false_or, false_and, and_false, reduceCtorEq, Nat.add_left_cancel_iff, Nat.add_zero, Nat.zero_add, cd_all h]; done)))
      | ((with_reducible refine e_X ?_ e1 ?_); focus (first | with_reducible rfl | (simp (disch := omega) only [b_all, sV_all, ↓reduceIte, Nat.reduceEqDiff, Nat.reduceLT, Nat.reduceLeDiff, Nat.reduceAdd, Nat.reduceMul, Nat.reduceSub, i_lit, eq_self, and_true, true_and, and_self, not_true_eq_false, not_false_eq_true, or_true, true_or, or_false, false_or, false_and, and_false, reduceCtorEq, Nat.add_left_cancel_iff, Nat.add_zero, Nat.zero_add, cd_all h]; done)))
      | ((with_reducible apply e_o1); focus (simp (disch := omega) only [b_all, sV_all, ↓reduceIte, Nat.reduceEqDiff, Nat.reduceLT, Nat.reduceLeDiff, Nat.reduceAdd, Nat.reduceMul, Nat.reduceSub, i_lit, eq_self, and_true, true_and, and_self, not_true_eq_false, not_false_eq_true, or_true, true_or, or_false, false_or, false_and, and_false, reduceCtorEq, Nat.add_left_cancel_iff, Nat.add_zero, Nat.zero_add, cd_all h]; first | done | rfl))
      | ((with_reducible refine e_ip ?_ ?_); focus (simp (disch := omega) only [b_all, sV_all, ↓reduceIte, Nat.reduceEqDiff, Nat.reduceLT, Nat.reduceLeDiff, Nat.reduceAdd, Nat.reduceMul, Nat.reduceSub, i_lit, eq_self, and_true, true_and, and_self, not_true_eq_false, not_false_eq_true, or_true, true_or, or_false, false_or, false_and, and_false, reduceCtorEq, Nat.add_left_cancel_iff, Nat.add_zero, Nat.zero_add, cd_all h]; done))
      | ((with_reducible refine e_in ?_ ?_); focus (simp (disch := omega) only [b_all, sV_all, ↓reduceIte, Nat.reduceEqDiff, Nat.reduceLT, Nat.reduceLeDiff, Nat.reduceAdd, Nat.reduceMul, Nat.reduceSub, i_lit, eq_self, and_true, true_and, and_self, not_true_eq_false, not_false_eq_true, or_true, true_or, or_false, false_or, false_and, and_false, reduceCtorEq, Nat.add_left_cancel_iff, Nat.add_zero, Nat.zero_add, cd_all h]; done))
      | unfold fX4_hasRoom_18
      | fail)
    first | with_reducible rfl | simp (disch := omega) only [b_all, sV_all, ↓reduceIte, Nat.reduceEqDiff, Nat.reduceLT, Nat.reduceLeDiff, Nat.reduceAdd, Nat.reduceMul, Nat.reduceSub, i_lit, eq_self, and_true, true_and, and_self, not_true_eq_false, not_false_eq_true, or_true, true_or, or_false, false_or, false_and, and_false, reduceCtorEq, Nat.add_left_cancel_iff, Nat.add_zero, Nat.zero_add, cd_all h]
  · rw [bp_f c]
    repeat (first
      | (with_reducible refine e_l1 ?_)
      | ((with_reducible refine e_k ?_ (kB h) ?_); focus rfl)
      | ((with_reducible refine e_p ?_ (p_s h) ?_); focus rfl)
      | ((with_reducible refine e_p ?_ (p_t h) ?_); focus rfl)
      | ((with_reducible refine e_p ?_ (p_l h) ?_); focus rfl)
      | ((with_reducible refine e_p ?_ (p_f h) ?_); focus rfl)
      | ((with_reducible refine e_o2 ?_ e1 ?_); focus (first | with_reducible rfl | (simp (disch := omega) only [b_all, sV_all, ↓reduceIte, Nat.reduceEqDiff, Nat.reduceLT, Nat.reduceLeDiff, Nat.reduceAdd, Nat.reduceMul, Nat.reduceSub, i_lit, eq_self, and_true, true_and, and_self, not_true_eq_false, not_false_eq_true, or_true, true_or, or_false, false_or, false_and, and_false, reduceCtorEq, Nat.add_left_cancel_iff, Nat.add_zero, Nat.zero_add, cd_all h]; done)))
      | ((with_reducible refine e_T ?_ e1 ?_); focus (first | with_reducible rfl | (simp (disch := omega) only [b_all, sV_all, ↓reduceIte, Nat.reduceEqDiff, Nat.reduceLT, Nat.reduceLeDiff, Nat.reduceAdd, Nat.reduceMul, Nat.reduceSub, i_lit, eq_self, and_true, true_and, and_self, not_true_eq_false, not_false_eq_true, or_true, true_or, or_false, false_or, false_and, and_false, reduceCtorEq, Nat.add_left_cancel_iff, Nat.add_zero, Nat.zero_add, cd_all h]; done)))
      | ((with_reducible refine e_X ?_ e1 ?_); focus (first | with_reducible rfl | (simp (disch := omega) only [b_all, sV_all, ↓reduceIte, Nat.reduceEqDiff, Nat.reduceLT, Nat.reduceLeDiff, Nat.reduceAdd, Nat.reduceMul, Nat.reduceSub, i_lit, eq_self, and_true, true_and, and_self, not_true_eq_false, not_false_eq_true, or_true, true_or, or_false, false_or, false_and, and_false, reduceCtorEq, Nat.add_left_cancel_iff, Nat.add_zero, Nat.zero_add, cd_all h]; done)))
      | ((with_reducible apply e_o1); focus (simp (disch := omega) only [b_all, sV_all, ↓reduceIte, Nat.reduceEqDiff, Nat.reduceLT, Nat.reduceLeDiff, Nat.reduceAdd, Nat.reduceMul, Nat.reduceSub, i_lit, eq_self, and_true, true_and, and_self, not_true_eq_false, not_false_eq_true, or_true, true_or, or_false, false_or, false_and, and_false, reduceCtorEq, Nat.add_left_cancel_iff, Nat.add_zero, Nat.zero_add, cd_all h]; first | done | rfl))
      | ((with_reducible refine e_ip ?_ ?_); focus (simp (disch := omega) only [b_all, sV_all, ↓reduceIte, Nat.reduceEqDiff, Nat.reduceLT, Nat.reduceLeDiff, Nat.reduceAdd, Nat.reduceMul, Nat.reduceSub, i_lit, eq_self, and_true, true_and, and_self, not_true_eq_false, not_false_eq_true, or_true, true_or, or_false, false_or, false_and, and_false, reduceCtorEq, Nat.add_left_cancel_iff, Nat.add_zero, Nat.zero_add, cd_all h]; done))
      | ((with_reducible refine e_in ?_ ?_); focus (simp (disch := omega) only [b_all, sV_all, ↓reduceIte, Nat.reduceEqDiff, Nat.reduceLT, Nat.reduceLeDiff, Nat.reduceAdd, Nat.reduceMul, Nat.reduceSub, i_lit, eq_self, and_true, true_and, and_self, not_true_eq_false, not_false_eq_true, or_true, true_or, or_false, false_or, false_and, and_false, reduceCtorEq, Nat.add_left_cancel_iff, Nat.add_zero, Nat.zero_add, cd_all h]; done))
      | unfold fX4_hasRoom_18
      | fail)
    first | with_reducible rfl | simp (disch := omega) only [b_all, sV_all, ↓reduceIte, Nat.reduceEqDiff, Nat.reduceLT, Nat.reduceLeDiff, Nat.reduceAdd, Nat.reduceMul, Nat.reduceSub, i_lit, eq_self, and_true, true_and, and_self, not_true_eq_false, not_false_eq_true, or_true, true_or, or_false, false_or, false_and, and_false, reduceCtorEq, Nat.add_left_cancel_iff, Nat.add_zero, Nat.zero_add, cd_all h]
theorem c_letter (h : St x B C W0 M) (kd fr to t : Nat) : ∃ M1, fX1_init x k (mX M) (i32 kd) (i32 fr) (i32 to) (i32 t) (nO M 2 0 4) = some ((), M1) ∧ St x B (U (U C 73 0 (mX M + 1)) 73 1 (mS M + 4)) W0 M1 ∧ mX M1 = mX M + 1 ∧ mK M1 (mX M) = 2 ∧ ∀ j, mV M1 (mX M) j = i32 (lt4 kd fr to t j) := by
  have k2 : mK (nO M 2 0 4) (mX M) = 2 := by rw [nO_K, if_pos rfl]
  refine ⟨sV (sV (sV (sV (nO M 2 0 4) (mX M) 0 (i32 kd)) (mX M) 1 (i32 fr)) (mX M) 2 (i32 to)) (mX M) 3 (i32 t), ?_, ?_, rfl, k2, fun j => ?_⟩
  · have e : fJxe7f93_init_da8c8 x k (mX M) (nO M 2 0 4) = some ((), nO M 2 0 4) := rfl
    unfold fX1_init
    rw [e, ob2_s, if_pos k2, if_pos (show mK (sV (nO M 2 0 4) (mX M) 0 (i32 kd)) (mX M) = 2 from k2), if_pos (show mK (sV (sV (nO M 2 0 4) (mX M) 0 (i32 kd)) (mX M) 1 (i32 fr)) (mX M) = 2 from k2), if_pos (show mK (sV (sV (sV (nO M 2 0 4) (mX M) 0 (i32 kd)) (mX M) 1 (i32 fr)) (mX M) 2 (i32 to)) (mX M) = 2 from k2)]
  · refine st_ext h (M' := sV (sV (sV (sV (nO M 2 0 4) (mX M) 0 (i32 kd)) (mX M) 1 (i32 fr)) (mX M) 2 (i32 to)) (mX M) 3 (i32 t)) (by show mX M ≤ mX M + 1; omega) (fun a ha => ⟨?_, ?_, fun k => ?_, fun k => ?_, fun k => (nO_J M 2 0 4 a k).trans (if_neg (by omega))⟩)
    · simp only [sV_K]; rw [nO_K, if_neg (by omega)]
    · simp only [sV_N]; rw [nO_N, if_neg (by omega)]
    · rw [sV_Vn _ _ _ _ _ (by omega), sV_Vn _ _ _ _ _ (by omega), sV_Vn _ _ _ _ _ (by omega), sV_Vn _ _ _ _ _ (by omega), nO_V, if_neg (by omega)]
    · simp only [sV_P]; rw [nO_P, if_neg (by omega)]
  · unfold lt4
    simp only [sV_V, nO_V, true_and, ↓reduceIte]
    by_cases c3 : j = 3
    · rw [if_pos c3, if_neg (by omega), if_neg (by omega), if_neg (by omega), if_pos c3]
    · rw [if_neg c3]
      by_cases c2 : j = 2
      · rw [if_pos c2, if_neg (by omega), if_neg (by omega), if_pos c2]
      · rw [if_neg c2]
        by_cases c1 : j = 1
        · rw [if_pos c1, if_neg (by omega), if_pos c1]
        · rw [if_neg c1]
          by_cases c0 : j = 0
          · rw [if_pos c0, if_pos c0]
          · rw [if_neg c0, if_neg c0, if_neg c1, if_neg c2, if_neg c3]
theorem c_send (h : St x B C W0 M) (r : Rl C W) (rx : Rx x C) (kd fr to t : Nat) : ∃ C' M', fX4_send x k B (i32 kd) (i32 fr) (i32 to) (i32 t) M = some ((), M') ∧ St x B C' W0 M' ∧ Rl C' (wSend W kd fr to t) ∧ Kp C C' := by
  have hb := r.b
  have e23 := r.s.2.2.2
  have e6 := r.s.2.2.1
  have h1 := suB h 6 (C 0 6 + 1)
  have er := c_room (k := k) h1 (by rw [U_r _ (by omega)]; omega)
  rw [U_r _ (by omega)] at er
  obtain ⟨rx1, rx2⟩ := rx
  unfold pX at rx1
  unfold pZ at rx2
  have hx := h.1
  by_cases c : C 60 1 < 300
  · rw [bp_t c] at er
    obtain ⟨M2, e2, h2, x2, k2, v2⟩ := c_letter (k := k) h1 kd fr to t
    have hmx : mX (sV M B 6 (i32 (C 0 6 + 1))) = mX M := rfl
    have hms : mS (sV M B 6 (i32 (C 0 6 + 1))) = mS M := rfl
    obtain ⟨C3, M3, e3, h3, ad⟩ := c_add1 (k := k) h2 (by simp (disch := omega) only [U_r]; exact c) (e := mX (sV M B 6 (i32 (C 0 6 + 1)))) (g := lt4 kd fr to t) (by omega) k2 v2 (by simp (disch := omega) only [U_r, U_k, U_s]; omega) (by simp (disch := omega) only [U_r, U_k, U_s]; omega)
    unfold Ad at ad
    simp (disch := omega) only [U_r, U_k, U_s] at ad
    obtain ⟨d1, ⟨d2, d3⟩, d4, ⟨d5, d6⟩, d7, d8⟩ := ad
    have d0 : ∀ i, C3 70 i = C 70 i := fun i => by
      rw [d1 70 i (by omega) (by omega) (by omega) (by omega) (by omega)]
      simp (disch := omega) only [U_ne]
    refine ⟨C3, M3, ?_, h3, ?_, ⟨?_, fun i => ?_, ?_, ?_⟩⟩
    · unfold fX4_send
      repeat (first
        | (with_reducible refine e_l1 ?_)
        | ((with_reducible refine e_k ?_ (kB h) ?_); focus rfl)
        | ((with_reducible refine e_p ?_ (p_s h) ?_); focus rfl)
        | ((with_reducible refine e_p ?_ (p_t h) ?_); focus rfl)
        | ((with_reducible refine e_p ?_ (p_l h) ?_); focus rfl)
        | ((with_reducible refine e_p ?_ (p_f h) ?_); focus rfl)
        | ((with_reducible refine e_k ?_ (kB h2) ?_); focus rfl)
        | ((with_reducible refine e_p ?_ (p_s h2) ?_); focus rfl)
        | ((with_reducible refine e_p ?_ (p_t h2) ?_); focus rfl)
        | ((with_reducible refine e_p ?_ (p_l h2) ?_); focus rfl)
        | ((with_reducible refine e_p ?_ (p_f h2) ?_); focus rfl)
        | ((with_reducible refine e_o2 ?_ er ?_); focus (first | with_reducible rfl | (simp (disch := omega) only [b_all, sV_all, ↓reduceIte, Nat.reduceEqDiff, Nat.reduceLT, Nat.reduceLeDiff, Nat.reduceAdd, Nat.reduceMul, Nat.reduceSub, i_lit, eq_self, and_true, true_and, and_self, not_true_eq_false, not_false_eq_true, or_true, true_or, or_false, false_or, false_and, and_false, reduceCtorEq, Nat.add_left_cancel_iff, Nat.add_zero, Nat.zero_add, cd_all h, cd_all h2]; done)))
        | ((with_reducible refine e_o2 ?_ e2 ?_); focus (first | with_reducible rfl | (simp (disch := omega) only [b_all, sV_all, ↓reduceIte, Nat.reduceEqDiff, Nat.reduceLT, Nat.reduceLeDiff, Nat.reduceAdd, Nat.reduceMul, Nat.reduceSub, i_lit, eq_self, and_true, true_and, and_self, not_true_eq_false, not_false_eq_true, or_true, true_or, or_false, false_or, false_and, and_false, reduceCtorEq, Nat.add_left_cancel_iff, Nat.add_zero, Nat.zero_add, cd_all h, cd_all h2]; done)))
        | ((with_reducible refine e_o2 ?_ e3 ?_); focus (first | with_reducible rfl | (simp (disch := omega) only [b_all, sV_all, ↓reduceIte, Nat.reduceEqDiff, Nat.reduceLT, Nat.reduceLeDiff, Nat.reduceAdd, Nat.reduceMul, Nat.reduceSub, i_lit, eq_self, and_true, true_and, and_self, not_true_eq_false, not_false_eq_true, or_true, true_or, or_false, false_or, false_and, and_false, reduceCtorEq, Nat.add_left_cancel_iff, Nat.add_zero, Nat.zero_add, cd_all h, cd_all h2]; done)))
        | ((with_reducible refine e_T ?_ er ?_); focus (first | with_reducible rfl | (simp (disch := omega) only [b_all, sV_all, ↓reduceIte, Nat.reduceEqDiff, Nat.reduceLT, Nat.reduceLeDiff, Nat.reduceAdd, Nat.reduceMul, Nat.reduceSub, i_lit, eq_self, and_true, true_and, and_self, not_true_eq_false, not_false_eq_true, or_true, true_or, or_false, false_or, false_and, and_false, reduceCtorEq, Nat.add_left_cancel_iff, Nat.add_zero, Nat.zero_add, cd_all h, cd_all h2]; done)))
        | ((with_reducible refine e_X ?_ er ?_); focus (first | with_reducible rfl | (simp (disch := omega) only [b_all, sV_all, ↓reduceIte, Nat.reduceEqDiff, Nat.reduceLT, Nat.reduceLeDiff, Nat.reduceAdd, Nat.reduceMul, Nat.reduceSub, i_lit, eq_self, and_true, true_and, and_self, not_true_eq_false, not_false_eq_true, or_true, true_or, or_false, false_or, false_and, and_false, reduceCtorEq, Nat.add_left_cancel_iff, Nat.add_zero, Nat.zero_add, cd_all h, cd_all h2]; done)))
        | ((with_reducible refine e_T ?_ e2 ?_); focus (first | with_reducible rfl | (simp (disch := omega) only [b_all, sV_all, ↓reduceIte, Nat.reduceEqDiff, Nat.reduceLT, Nat.reduceLeDiff, Nat.reduceAdd, Nat.reduceMul, Nat.reduceSub, i_lit, eq_self, and_true, true_and, and_self, not_true_eq_false, not_false_eq_true, or_true, true_or, or_false, false_or, false_and, and_false, reduceCtorEq, Nat.add_left_cancel_iff, Nat.add_zero, Nat.zero_add, cd_all h, cd_all h2]; done)))
        | ((with_reducible refine e_X ?_ e2 ?_); focus (first | with_reducible rfl | (simp (disch := omega) only [b_all, sV_all, ↓reduceIte, Nat.reduceEqDiff, Nat.reduceLT, Nat.reduceLeDiff, Nat.reduceAdd, Nat.reduceMul, Nat.reduceSub, i_lit, eq_self, and_true, true_and, and_self, not_true_eq_false, not_false_eq_true, or_true, true_or, or_false, false_or, false_and, and_false, reduceCtorEq, Nat.add_left_cancel_iff, Nat.add_zero, Nat.zero_add, cd_all h, cd_all h2]; done)))
        | ((with_reducible refine e_T ?_ e3 ?_); focus (first | with_reducible rfl | (simp (disch := omega) only [b_all, sV_all, ↓reduceIte, Nat.reduceEqDiff, Nat.reduceLT, Nat.reduceLeDiff, Nat.reduceAdd, Nat.reduceMul, Nat.reduceSub, i_lit, eq_self, and_true, true_and, and_self, not_true_eq_false, not_false_eq_true, or_true, true_or, or_false, false_or, false_and, and_false, reduceCtorEq, Nat.add_left_cancel_iff, Nat.add_zero, Nat.zero_add, cd_all h, cd_all h2]; done)))
        | ((with_reducible refine e_X ?_ e3 ?_); focus (first | with_reducible rfl | (simp (disch := omega) only [b_all, sV_all, ↓reduceIte, Nat.reduceEqDiff, Nat.reduceLT, Nat.reduceLeDiff, Nat.reduceAdd, Nat.reduceMul, Nat.reduceSub, i_lit, eq_self, and_true, true_and, and_self, not_true_eq_false, not_false_eq_true, or_true, true_or, or_false, false_or, false_and, and_false, reduceCtorEq, Nat.add_left_cancel_iff, Nat.add_zero, Nat.zero_add, cd_all h, cd_all h2]; done)))
        | ((with_reducible apply e_o1); focus (simp (disch := omega) only [b_all, sV_all, ↓reduceIte, Nat.reduceEqDiff, Nat.reduceLT, Nat.reduceLeDiff, Nat.reduceAdd, Nat.reduceMul, Nat.reduceSub, i_lit, eq_self, and_true, true_and, and_self, not_true_eq_false, not_false_eq_true, or_true, true_or, or_false, false_or, false_and, and_false, reduceCtorEq, Nat.add_left_cancel_iff, Nat.add_zero, Nat.zero_add, cd_all h, cd_all h2]; first | done | rfl))
        | ((with_reducible refine e_ip ?_ ?_); focus (simp (disch := omega) only [b_all, sV_all, ↓reduceIte, Nat.reduceEqDiff, Nat.reduceLT, Nat.reduceLeDiff, Nat.reduceAdd, Nat.reduceMul, Nat.reduceSub, i_lit, eq_self, and_true, true_and, and_self, not_true_eq_false, not_false_eq_true, or_true, true_or, or_false, false_or, false_and, and_false, reduceCtorEq, Nat.add_left_cancel_iff, Nat.add_zero, Nat.zero_add, cd_all h, cd_all h2]; done))
        | ((with_reducible refine e_in ?_ ?_); focus (simp (disch := omega) only [b_all, sV_all, ↓reduceIte, Nat.reduceEqDiff, Nat.reduceLT, Nat.reduceLeDiff, Nat.reduceAdd, Nat.reduceMul, Nat.reduceSub, i_lit, eq_self, and_true, true_and, and_self, not_true_eq_false, not_false_eq_true, or_true, true_or, or_false, false_or, false_and, and_false, reduceCtorEq, Nat.add_left_cancel_iff, Nat.add_zero, Nat.zero_add, cd_all h, cd_all h2]; done))
        | unfold fX4_send_37
        | fail)
      first | with_reducible rfl | simp (disch := omega) only [b_all, sV_all, ↓reduceIte, Nat.reduceEqDiff, Nat.reduceLT, Nat.reduceLeDiff, Nat.reduceAdd, Nat.reduceMul, Nat.reduceSub, i_lit, eq_self, and_true, true_and, and_self, not_true_eq_false, not_false_eq_true, or_true, true_or, or_false, false_or, false_and, and_false, reduceCtorEq, Nat.add_left_cancel_iff, Nat.add_zero, Nat.zero_add, cd_all h, cd_all h2]
    · have eW : wSend W kd fr to t = U (U (U (U (U (U W 0 24 (W 0 24 + 1)) 20 (4 * W 0 23) kd) 20 (4 * W 0 23 + 1) fr) 20 (4 * W 0 23 + 2) to) 20 (4 * W 0 23 + 3) t) 0 23 (W 0 23 + 1) := if_neg (by omega)
      rw [eW]
      refine rl_let r (fun a j ha => ?_) d2 (fun i j h1 h2 => ?_) ⟨?_, ?_, ?_⟩ ?_ ?_ ?_ (fun j q hj hq => ?_)
      · rw [d1 a j (by omega) (by omega) (by omega) (by omega) (by omega)]
        by_cases z : a = 0 ∧ j = 6
        · exact Or.inr z
        · refine Or.inl ?_
          simp (disch := omega) only [U_ne]
      · simp (disch := omega) only [U_ne]
      · simp (disch := omega) only [U_ne]
      · simp (disch := omega) only [U_ne]
      · simp (disch := omega) only [U_ne]
      · rw [d1 0 6 (by omega) (by omega) (by omega) (by omega) (by omega)]
        simp (disch := omega) only [U_ne, U_s]
        rw [e6]
      · rw [d3]
        simp (disch := omega) only [U_ne, U_s]
        rw [e23]
      · simp (disch := omega) only [U_ne, U_s]; omega
      · rw [U_s] at hj
        by_cases z : j = W 0 23
        · subst z
          rw [← e23, d4]
          rcases (show q = 0 ∨ q = 1 ∨ q = 2 ∨ q = 3 by omega) with rfl | rfl | rfl | rfl
          · simp (disch := omega) only [U_ne, U_s, Nat.add_zero]; rfl
          · simp (disch := omega) only [U_ne, U_s]; rfl
          · simp (disch := omega) only [U_ne, U_s]; rfl
          · simp (disch := omega) only [U_ne, U_s]; rfl
        · rw [d1 (2000 + j) q (by omega) (by omega) (by omega) (by omega) (by omega)]
          simp (disch := omega) only [U_ne]
          exact r.l j q (by omega) hq
    · exact d2
    · exact d0 i
    · unfold pX; rw [d3]; omega
    · unfold pZ; rw [d3, d5]; omega
  · rw [bp_f c] at er
    refine ⟨_, _, ?_, h1, ?_, Kp.low (fun a j q1 q2 => U_r _ (by omega) _ _ _)⟩
    · unfold fX4_send
      repeat (first
        | (with_reducible refine e_l1 ?_)
        | ((with_reducible refine e_k ?_ (kB h) ?_); focus rfl)
        | ((with_reducible refine e_p ?_ (p_s h) ?_); focus rfl)
        | ((with_reducible refine e_p ?_ (p_t h) ?_); focus rfl)
        | ((with_reducible refine e_p ?_ (p_l h) ?_); focus rfl)
        | ((with_reducible refine e_p ?_ (p_f h) ?_); focus rfl)
        | ((with_reducible refine e_o2 ?_ er ?_); focus (first | with_reducible rfl | (simp (disch := omega) only [b_all, sV_all, ↓reduceIte, Nat.reduceEqDiff, Nat.reduceLT, Nat.reduceLeDiff, Nat.reduceAdd, Nat.reduceMul, Nat.reduceSub, i_lit, eq_self, and_true, true_and, and_self, not_true_eq_false, not_false_eq_true, or_true, true_or, or_false, false_or, false_and, and_false, reduceCtorEq, Nat.add_left_cancel_iff, Nat.add_zero, Nat.zero_add, cd_all h]; done)))
        | ((with_reducible refine e_T ?_ er ?_); focus (first | with_reducible rfl | (simp (disch := omega) only [b_all, sV_all, ↓reduceIte, Nat.reduceEqDiff, Nat.reduceLT, Nat.reduceLeDiff, Nat.reduceAdd, Nat.reduceMul, Nat.reduceSub, i_lit, eq_self, and_true, true_and, and_self, not_true_eq_false, not_false_eq_true, or_true, true_or, or_false, false_or, false_and, and_false, reduceCtorEq, Nat.add_left_cancel_iff, Nat.add_zero, Nat.zero_add, cd_all h]; done)))
        | ((with_reducible refine e_X ?_ er ?_); focus (first | with_reducible rfl | (simp (disch := omega) only [b_all, sV_all, ↓reduceIte, Nat.reduceEqDiff, Nat.reduceLT, Nat.reduceLeDiff, Nat.reduceAdd, Nat.reduceMul, Nat.reduceSub, i_lit, eq_self, and_true, true_and, and_self, not_true_eq_false, not_false_eq_true, or_true, true_or, or_false, false_or, false_and, and_false, reduceCtorEq, Nat.add_left_cancel_iff, Nat.add_zero, Nat.zero_add, cd_all h]; done)))
        | ((with_reducible apply e_o1); focus (simp (disch := omega) only [b_all, sV_all, ↓reduceIte, Nat.reduceEqDiff, Nat.reduceLT, Nat.reduceLeDiff, Nat.reduceAdd, Nat.reduceMul, Nat.reduceSub, i_lit, eq_self, and_true, true_and, and_self, not_true_eq_false, not_false_eq_true, or_true, true_or, or_false, false_or, false_and, and_false, reduceCtorEq, Nat.add_left_cancel_iff, Nat.add_zero, Nat.zero_add, cd_all h]; first | done | rfl))
        | ((with_reducible refine e_ip ?_ ?_); focus (simp (disch := omega) only [b_all, sV_all, ↓reduceIte, Nat.reduceEqDiff, Nat.reduceLT, Nat.reduceLeDiff, Nat.reduceAdd, Nat.reduceMul, Nat.reduceSub, i_lit, eq_self, and_true, true_and, and_self, not_true_eq_false, not_false_eq_true, or_true, true_or, or_false, false_or, false_and, and_false, reduceCtorEq, Nat.add_left_cancel_iff, Nat.add_zero, Nat.zero_add, cd_all h]; done))
        | ((with_reducible refine e_in ?_ ?_); focus (simp (disch := omega) only [b_all, sV_all, ↓reduceIte, Nat.reduceEqDiff, Nat.reduceLT, Nat.reduceLeDiff, Nat.reduceAdd, Nat.reduceMul, Nat.reduceSub, i_lit, eq_self, and_true, true_and, and_self, not_true_eq_false, not_false_eq_true, or_true, true_or, or_false, false_or, false_and, and_false, reduceCtorEq, Nat.add_left_cancel_iff, Nat.add_zero, Nat.zero_add, cd_all h]; done))
        | unfold fX4_send_37
        | fail)
      first | with_reducible rfl | simp (disch := omega) only [b_all, sV_all, ↓reduceIte, Nat.reduceEqDiff, Nat.reduceLT, Nat.reduceLeDiff, Nat.reduceAdd, Nat.reduceMul, Nat.reduceSub, i_lit, eq_self, and_true, true_and, and_self, not_true_eq_false, not_false_eq_true, or_true, true_or, or_false, false_or, false_and, and_false, reduceCtorEq, Nat.add_left_cancel_iff, Nat.add_zero, Nat.zero_add, cd_all h]
    · have eW : wSend W kd fr to t = U W 0 24 (W 0 24 + 1) := if_pos (by omega)
      rw [eW]
      refine rl_let r (fun a j ha => ?_) (U_r _ (by omega) _ _ _) (fun i j h1 h2 => ?_) ⟨?_, ?_, ?_⟩ ?_ ?_ ?_ (fun j q hj hq => ?_)
      · by_cases z : a = 0 ∧ j = 6
        · exact Or.inr z
        · refine Or.inl ?_
          simp (disch := omega) only [U_ne]
      · simp (disch := omega) only [U_ne]
      · simp (disch := omega) only [U_ne]
      · simp (disch := omega) only [U_ne]
      · simp (disch := omega) only [U_ne]
      · rw [U_s, U_s, e6]
      · simp (disch := omega) only [U_ne]; exact e23
      · simp (disch := omega) only [U_ne]; omega
      · simp (disch := omega) only [U_ne] at hj ⊢
        exact r.l j q hj hq
theorem c_sends3 {t kd w : Nat} (W : Ab) {f : Nat → Prop} (ht : t < W 0 5) (hw : Bt w 5 f) (C : Ab) (rx : Rx x C) : ∀ n s C' M, St x B C' W0 M → Rl C' (sdF W kd (W 4 t) t f s) → Kp C C' → s ≤ W 0 0 → W 0 0 < n + s → ∃ C' M', fX4_sendToAll_3 x k n B (i32 kd) (C 70 t) (i32 w) (i32 s) M = some (i32 (ct f 5), M') ∧ St x B C' W0 M' ∧ Rl C' (sdF W kd (W 4 t) t f (W 0 0)) ∧ Kp C C' := by
  intro n
  induction n with
  | zero => intro s C' M _ _ _ h1 h2; omega
  | succ n ih =>
    intro s C' M h r' kp hs hn
    have l5 : sdF W kd (W 4 t) t f s 0 5 = W 0 5 := sdF_k _ _ _ _ _ (by omega) _
    have l0 : sdF W kd (W 4 t) t f s 0 0 = W 0 0 := sdF_k _ _ _ _ _ (by omega) _
    have l4 : sdF W kd (W 4 t) t f s 4 t = W 4 t := sdF_r _ _ _ _ _ (by omega) _ _
    have ht' : t < sdF W kd (W 4 t) t f s 0 5 := by omega
    have htc := r'.c ht'
    have e70 := kp.2.1 t
    have e4 := r'.s.1
    rw [l0] at e4
    have hb := r'.b
    rw [l0] at hb
    rw [← e70]
    by_cases hc : W 0 0 ≤ s
    · obtain rfl : s = W 0 0 := by omega
      refine ⟨C', M, ?_, h, r', kp⟩
      have eb := c_bits (x := x) (k := k) (M := M) hw
      rw [fX4_sendToAll_3]
      repeat (first
        | (with_reducible refine e_l1 ?_)
        | ((with_reducible refine e_k ?_ (kB h) ?_); focus rfl)
        | ((with_reducible refine e_p ?_ (p_s h) ?_); focus rfl)
        | ((with_reducible refine e_p ?_ (p_t h) ?_); focus rfl)
        | ((with_reducible refine e_p ?_ (p_l h) ?_); focus rfl)
        | ((with_reducible refine e_p ?_ (p_f h) ?_); focus rfl)
        | ((with_reducible refine e_o2 ?_ eb ?_); focus (first | with_reducible rfl | (simp (disch := omega) only [b_all, sV_all, ↓reduceIte, Nat.reduceEqDiff, Nat.reduceLT, Nat.reduceLeDiff, Nat.reduceAdd, Nat.reduceMul, Nat.reduceSub, i_lit, eq_self, and_true, true_and, and_self, not_true_eq_false, not_false_eq_true, or_true, true_or, or_false, false_or, false_and, and_false, reduceCtorEq, Nat.add_left_cancel_iff, Nat.add_zero, Nat.zero_add, cd_all h, e4]; done)))
        | ((with_reducible refine e_T ?_ eb ?_); focus (first | with_reducible rfl | (simp (disch := omega) only [b_all, sV_all, ↓reduceIte, Nat.reduceEqDiff, Nat.reduceLT, Nat.reduceLeDiff, Nat.reduceAdd, Nat.reduceMul, Nat.reduceSub, i_lit, eq_self, and_true, true_and, and_self, not_true_eq_false, not_false_eq_true, or_true, true_or, or_false, false_or, false_and, and_false, reduceCtorEq, Nat.add_left_cancel_iff, Nat.add_zero, Nat.zero_add, cd_all h, e4]; done)))
        | ((with_reducible refine e_X ?_ eb ?_); focus (first | with_reducible rfl | (simp (disch := omega) only [b_all, sV_all, ↓reduceIte, Nat.reduceEqDiff, Nat.reduceLT, Nat.reduceLeDiff, Nat.reduceAdd, Nat.reduceMul, Nat.reduceSub, i_lit, eq_self, and_true, true_and, and_self, not_true_eq_false, not_false_eq_true, or_true, true_or, or_false, false_or, false_and, and_false, reduceCtorEq, Nat.add_left_cancel_iff, Nat.add_zero, Nat.zero_add, cd_all h, e4]; done)))
        | ((with_reducible apply e_o1); focus (simp (disch := omega) only [b_all, sV_all, ↓reduceIte, Nat.reduceEqDiff, Nat.reduceLT, Nat.reduceLeDiff, Nat.reduceAdd, Nat.reduceMul, Nat.reduceSub, i_lit, eq_self, and_true, true_and, and_self, not_true_eq_false, not_false_eq_true, or_true, true_or, or_false, false_or, false_and, and_false, reduceCtorEq, Nat.add_left_cancel_iff, Nat.add_zero, Nat.zero_add, cd_all h, e4]; first | done | rfl))
        | ((with_reducible refine e_ip ?_ ?_); focus (simp (disch := omega) only [b_all, sV_all, ↓reduceIte, Nat.reduceEqDiff, Nat.reduceLT, Nat.reduceLeDiff, Nat.reduceAdd, Nat.reduceMul, Nat.reduceSub, i_lit, eq_self, and_true, true_and, and_self, not_true_eq_false, not_false_eq_true, or_true, true_or, or_false, false_or, false_and, and_false, reduceCtorEq, Nat.add_left_cancel_iff, Nat.add_zero, Nat.zero_add, cd_all h, e4]; done))
        | ((with_reducible refine e_in ?_ ?_); focus (simp (disch := omega) only [b_all, sV_all, ↓reduceIte, Nat.reduceEqDiff, Nat.reduceLT, Nat.reduceLeDiff, Nat.reduceAdd, Nat.reduceMul, Nat.reduceSub, i_lit, eq_self, and_true, true_and, and_self, not_true_eq_false, not_false_eq_true, or_true, true_or, or_false, false_or, false_and, and_false, reduceCtorEq, Nat.add_left_cancel_iff, Nat.add_zero, Nat.zero_add, cd_all h, e4]; done))
        | fail)
      first | with_reducible rfl | simp (disch := omega) only [b_all, sV_all, ↓reduceIte, Nat.reduceEqDiff, Nat.reduceLT, Nat.reduceLeDiff, Nat.reduceAdd, Nat.reduceMul, Nat.reduceSub, i_lit, eq_self, and_true, true_and, and_self, not_true_eq_false, not_false_eq_true, or_true, true_or, or_false, false_or, false_and, and_false, reduceCtorEq, Nat.add_left_cancel_iff, Nat.add_zero, Nat.zero_add, cd_all h, e4]
    · have eh := c_has (x := x) (k := k) (M := M) (w := w) (a := s) (by have := hw.1; omega) (by omega)
      rw [bp_iff (hw.2 s (by omega))] at eh
      have e0 := (r'.t ht').1.1
      have e1 := (r'.t ht').1.2.1
      rw [l4] at e1
      by_cases c : f s
      · rw [bp_t c] at eh
        obtain ⟨C1, M1, es, h1, r1, k1⟩ := c_send (k := k) h r' (kp.rx rx) kd (W 4 t) s t
        obtain ⟨C2, M2, e, h2, r2, kp2⟩ := ih (s + 1) C1 M1 h1 (by rw [sdF_t c]; exact r1) (kp.trans k1) (by omega) (by omega)
        refine ⟨C2, M2, ?_, h2, r2, kp2⟩
        rw [← e, ← e70, fX4_sendToAll_3]
        repeat (first
          | (with_reducible refine e_l1 ?_)
          | ((with_reducible refine e_k ?_ (kB h) ?_); focus rfl)
          | ((with_reducible refine e_p ?_ (p_s h) ?_); focus rfl)
          | ((with_reducible refine e_p ?_ (p_t h) ?_); focus rfl)
          | ((with_reducible refine e_p ?_ (p_l h) ?_); focus rfl)
          | ((with_reducible refine e_p ?_ (p_f h) ?_); focus rfl)
          | ((with_reducible refine e_o2 ?_ eh ?_); focus (first | with_reducible rfl | (simp (disch := omega) only [b_all, sV_all, ↓reduceIte, Nat.reduceEqDiff, Nat.reduceLT, Nat.reduceLeDiff, Nat.reduceAdd, Nat.reduceMul, Nat.reduceSub, i_lit, eq_self, and_true, true_and, and_self, not_true_eq_false, not_false_eq_true, or_true, true_or, or_false, false_or, false_and, and_false, reduceCtorEq, Nat.add_left_cancel_iff, Nat.add_zero, Nat.zero_add, cd_all h, e4, e0, e1]; done)))
          | ((with_reducible refine e_o2 ?_ es ?_); focus (first | with_reducible rfl | (simp (disch := omega) only [b_all, sV_all, ↓reduceIte, Nat.reduceEqDiff, Nat.reduceLT, Nat.reduceLeDiff, Nat.reduceAdd, Nat.reduceMul, Nat.reduceSub, i_lit, eq_self, and_true, true_and, and_self, not_true_eq_false, not_false_eq_true, or_true, true_or, or_false, false_or, false_and, and_false, reduceCtorEq, Nat.add_left_cancel_iff, Nat.add_zero, Nat.zero_add, cd_all h, e4, e0, e1]; done)))
          | ((with_reducible refine e_T ?_ eh ?_); focus (first | with_reducible rfl | (simp (disch := omega) only [b_all, sV_all, ↓reduceIte, Nat.reduceEqDiff, Nat.reduceLT, Nat.reduceLeDiff, Nat.reduceAdd, Nat.reduceMul, Nat.reduceSub, i_lit, eq_self, and_true, true_and, and_self, not_true_eq_false, not_false_eq_true, or_true, true_or, or_false, false_or, false_and, and_false, reduceCtorEq, Nat.add_left_cancel_iff, Nat.add_zero, Nat.zero_add, cd_all h, e4, e0, e1]; done)))
          | ((with_reducible refine e_X ?_ eh ?_); focus (first | with_reducible rfl | (simp (disch := omega) only [b_all, sV_all, ↓reduceIte, Nat.reduceEqDiff, Nat.reduceLT, Nat.reduceLeDiff, Nat.reduceAdd, Nat.reduceMul, Nat.reduceSub, i_lit, eq_self, and_true, true_and, and_self, not_true_eq_false, not_false_eq_true, or_true, true_or, or_false, false_or, false_and, and_false, reduceCtorEq, Nat.add_left_cancel_iff, Nat.add_zero, Nat.zero_add, cd_all h, e4, e0, e1]; done)))
          | ((with_reducible refine e_T ?_ es ?_); focus (first | with_reducible rfl | (simp (disch := omega) only [b_all, sV_all, ↓reduceIte, Nat.reduceEqDiff, Nat.reduceLT, Nat.reduceLeDiff, Nat.reduceAdd, Nat.reduceMul, Nat.reduceSub, i_lit, eq_self, and_true, true_and, and_self, not_true_eq_false, not_false_eq_true, or_true, true_or, or_false, false_or, false_and, and_false, reduceCtorEq, Nat.add_left_cancel_iff, Nat.add_zero, Nat.zero_add, cd_all h, e4, e0, e1]; done)))
          | ((with_reducible refine e_X ?_ es ?_); focus (first | with_reducible rfl | (simp (disch := omega) only [b_all, sV_all, ↓reduceIte, Nat.reduceEqDiff, Nat.reduceLT, Nat.reduceLeDiff, Nat.reduceAdd, Nat.reduceMul, Nat.reduceSub, i_lit, eq_self, and_true, true_and, and_self, not_true_eq_false, not_false_eq_true, or_true, true_or, or_false, false_or, false_and, and_false, reduceCtorEq, Nat.add_left_cancel_iff, Nat.add_zero, Nat.zero_add, cd_all h, e4, e0, e1]; done)))
          | ((with_reducible apply e_o1); focus (simp (disch := omega) only [b_all, sV_all, ↓reduceIte, Nat.reduceEqDiff, Nat.reduceLT, Nat.reduceLeDiff, Nat.reduceAdd, Nat.reduceMul, Nat.reduceSub, i_lit, eq_self, and_true, true_and, and_self, not_true_eq_false, not_false_eq_true, or_true, true_or, or_false, false_or, false_and, and_false, reduceCtorEq, Nat.add_left_cancel_iff, Nat.add_zero, Nat.zero_add, cd_all h, e4, e0, e1]; first | done | rfl))
          | ((with_reducible refine e_ip ?_ ?_); focus (simp (disch := omega) only [b_all, sV_all, ↓reduceIte, Nat.reduceEqDiff, Nat.reduceLT, Nat.reduceLeDiff, Nat.reduceAdd, Nat.reduceMul, Nat.reduceSub, i_lit, eq_self, and_true, true_and, and_self, not_true_eq_false, not_false_eq_true, or_true, true_or, or_false, false_or, false_and, and_false, reduceCtorEq, Nat.add_left_cancel_iff, Nat.add_zero, Nat.zero_add, cd_all h, e4, e0, e1]; done))
          | ((with_reducible refine e_in ?_ ?_); focus (simp (disch := omega) only [b_all, sV_all, ↓reduceIte, Nat.reduceEqDiff, Nat.reduceLT, Nat.reduceLeDiff, Nat.reduceAdd, Nat.reduceMul, Nat.reduceSub, i_lit, eq_self, and_true, true_and, and_self, not_true_eq_false, not_false_eq_true, or_true, true_or, or_false, false_or, false_and, and_false, reduceCtorEq, Nat.add_left_cancel_iff, Nat.add_zero, Nat.zero_add, cd_all h, e4, e0, e1]; done))
          | unfold fX4_sendToAll_36
          | fail)
        first | with_reducible rfl | simp (disch := omega) only [b_all, sV_all, ↓reduceIte, Nat.reduceEqDiff, Nat.reduceLT, Nat.reduceLeDiff, Nat.reduceAdd, Nat.reduceMul, Nat.reduceSub, i_lit, eq_self, and_true, true_and, and_self, not_true_eq_false, not_false_eq_true, or_true, true_or, or_false, false_or, false_and, and_false, reduceCtorEq, Nat.add_left_cancel_iff, Nat.add_zero, Nat.zero_add, cd_all h, e4, e0, e1]
      · rw [bp_f c] at eh
        obtain ⟨C2, M2, e, h2, r2, kp2⟩ := ih (s + 1) C' M h (by rw [sdF_f c]; exact r') kp (by omega) (by omega)
        refine ⟨C2, M2, ?_, h2, r2, kp2⟩
        rw [← e, ← e70, fX4_sendToAll_3]
        repeat (first
          | (with_reducible refine e_l1 ?_)
          | ((with_reducible refine e_k ?_ (kB h) ?_); focus rfl)
          | ((with_reducible refine e_p ?_ (p_s h) ?_); focus rfl)
          | ((with_reducible refine e_p ?_ (p_t h) ?_); focus rfl)
          | ((with_reducible refine e_p ?_ (p_l h) ?_); focus rfl)
          | ((with_reducible refine e_p ?_ (p_f h) ?_); focus rfl)
          | ((with_reducible refine e_o2 ?_ eh ?_); focus (first | with_reducible rfl | (simp (disch := omega) only [b_all, sV_all, ↓reduceIte, Nat.reduceEqDiff, Nat.reduceLT, Nat.reduceLeDiff, Nat.reduceAdd, Nat.reduceMul, Nat.reduceSub, i_lit, eq_self, and_true, true_and, and_self, not_true_eq_false, not_false_eq_true, or_true, true_or, or_false, false_or, false_and, and_false, reduceCtorEq, Nat.add_left_cancel_iff, Nat.add_zero, Nat.zero_add, cd_all h, e4, e0, e1]; done)))
          | ((with_reducible refine e_T ?_ eh ?_); focus (first | with_reducible rfl | (simp (disch := omega) only [b_all, sV_all, ↓reduceIte, Nat.reduceEqDiff, Nat.reduceLT, Nat.reduceLeDiff, Nat.reduceAdd, Nat.reduceMul, Nat.reduceSub, i_lit, eq_self, and_true, true_and, and_self, not_true_eq_false, not_false_eq_true, or_true, true_or, or_false, false_or, false_and, and_false, reduceCtorEq, Nat.add_left_cancel_iff, Nat.add_zero, Nat.zero_add, cd_all h, e4, e0, e1]; done)))
          | ((with_reducible refine e_X ?_ eh ?_); focus (first | with_reducible rfl | (simp (disch := omega) only [b_all, sV_all, ↓reduceIte, Nat.reduceEqDiff, Nat.reduceLT, Nat.reduceLeDiff, Nat.reduceAdd, Nat.reduceMul, Nat.reduceSub, i_lit, eq_self, and_true, true_and, and_self, not_true_eq_false, not_false_eq_true, or_true, true_or, or_false, false_or, false_and, and_false, reduceCtorEq, Nat.add_left_cancel_iff, Nat.add_zero, Nat.zero_add, cd_all h, e4, e0, e1]; done)))
          | ((with_reducible apply e_o1); focus (simp (disch := omega) only [b_all, sV_all, ↓reduceIte, Nat.reduceEqDiff, Nat.reduceLT, Nat.reduceLeDiff, Nat.reduceAdd, Nat.reduceMul, Nat.reduceSub, i_lit, eq_self, and_true, true_and, and_self, not_true_eq_false, not_false_eq_true, or_true, true_or, or_false, false_or, false_and, and_false, reduceCtorEq, Nat.add_left_cancel_iff, Nat.add_zero, Nat.zero_add, cd_all h, e4, e0, e1]; first | done | rfl))
          | ((with_reducible refine e_ip ?_ ?_); focus (simp (disch := omega) only [b_all, sV_all, ↓reduceIte, Nat.reduceEqDiff, Nat.reduceLT, Nat.reduceLeDiff, Nat.reduceAdd, Nat.reduceMul, Nat.reduceSub, i_lit, eq_self, and_true, true_and, and_self, not_true_eq_false, not_false_eq_true, or_true, true_or, or_false, false_or, false_and, and_false, reduceCtorEq, Nat.add_left_cancel_iff, Nat.add_zero, Nat.zero_add, cd_all h, e4, e0, e1]; done))
          | ((with_reducible refine e_in ?_ ?_); focus (simp (disch := omega) only [b_all, sV_all, ↓reduceIte, Nat.reduceEqDiff, Nat.reduceLT, Nat.reduceLeDiff, Nat.reduceAdd, Nat.reduceMul, Nat.reduceSub, i_lit, eq_self, and_true, true_and, and_self, not_true_eq_false, not_false_eq_true, or_true, true_or, or_false, false_or, false_and, and_false, reduceCtorEq, Nat.add_left_cancel_iff, Nat.add_zero, Nat.zero_add, cd_all h, e4, e0, e1]; done))
          | unfold fX4_sendToAll_36
          | fail)
        first | with_reducible rfl | simp (disch := omega) only [b_all, sV_all, ↓reduceIte, Nat.reduceEqDiff, Nat.reduceLT, Nat.reduceLeDiff, Nat.reduceAdd, Nat.reduceMul, Nat.reduceSub, i_lit, eq_self, and_true, true_and, and_self, not_true_eq_false, not_false_eq_true, or_true, true_or, or_false, false_or, false_and, and_false, reduceCtorEq, Nat.add_left_cancel_iff, Nat.add_zero, Nat.zero_add, cd_all h, e4, e0, e1]
/-- to all of a set -/
theorem c_sends (hk : 5000 ≤ k) (h : St x B C W0 M) (r : Rl C W) (rx : Rx x C) {t kd w : Nat} {f : Nat → Prop} (ht : t < W 0 5) (hw : Bt w 5 f) : ∃ C' M', fX4_sendToAll x k B (i32 kd) (C 70 t) (i32 w) M = some (i32 (ct f 5), M') ∧ St x B C' W0 M' ∧ Rl C' (sdF W kd (W 4 t) t f (W 0 0)) ∧ Kp C C' := by
  have hb := r.b
  exact c_sends3 W ht hw C rx k 0 C M h r (Kp.refl C) (by omega) (by omega)
end
