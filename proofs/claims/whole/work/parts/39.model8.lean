theorem wTake_r (W : Ab) (i0 : Nat) {i : Nat} (hi : i ≠ 0 ∧ i ≠ 20) (j : Nat) : wTake W i0 i j = W i j := by
  unfold wTake; rw [U_r _ (by omega), tkF_r _ _ (by omega)]
theorem wTake_0 (W : Ab) (i0 : Nat) {j : Nat} (hj : j ≠ 23) : wTake W i0 0 j = W 0 j := by
  unfold wTake; rw [U_k _ _ _ hj, tkF_r _ _ (by omega)]
section
variable {x : Cx} {k B : Nat} {C W : Ab} {M : Mm}
theorem m_deliver_iae (h : St x B C W M) (hb : Bd W) {i : Nat} (hi : i < 4294967296) (hn : ¬ i < W 0 23) : fX5_deliver x k (B + 25) (i32 i) M = some (i32 0, sV M (B + 25) 27 (i32 1)) := by
  have h0 := hb.1
  have f0 := s_fails1 (k := k) h 1
  unfold fX5_deliver
  by_cases c : 2147483648 ≤ i
  · have en := i_neg hi
    repeat (first
      | (with_reducible refine e_l1 ?_)
      | ((with_reducible refine e_k ?_ (mkM h) ?_); focus rfl)
      | ((with_reducible refine e_p ?_ (mp1 h) ?_); focus rfl)
      | ((with_reducible refine e_p ?_ (mp2 h) ?_); focus rfl)
      | ((with_reducible refine e_p ?_ (mp3 h) ?_); focus rfl)
      | ((with_reducible refine e_p ?_ (mp4 h) ?_); focus rfl)
      | ((with_reducible refine e_p ?_ (mp5 h) ?_); focus rfl)
      | ((with_reducible refine e_p ?_ (mp6 h) ?_); focus rfl)
      | ((with_reducible refine e_p ?_ (mp7 h) ?_); focus rfl)
      | ((with_reducible refine e_p ?_ (mp8 h) ?_); focus rfl)
      | ((with_reducible refine e_p ?_ (mp9 h) ?_); focus rfl)
      | ((with_reducible refine e_p ?_ (mp10 h) ?_); focus rfl)
      | ((with_reducible refine e_p ?_ (mp11 h) ?_); focus rfl)
      | ((with_reducible refine e_p ?_ (mp12 h) ?_); focus rfl)
      | ((with_reducible refine e_p ?_ (mp13 h) ?_); focus rfl)
      | ((with_reducible refine e_p ?_ (mp14 h) ?_); focus rfl)
      | ((with_reducible refine e_p ?_ (mp15 h) ?_); focus rfl)
      | ((with_reducible refine e_p ?_ (mp16 h) ?_); focus rfl)
      | ((with_reducible refine e_p ?_ (mp17 h) ?_); focus rfl)
      | ((with_reducible refine e_p ?_ (mp18 h) ?_); focus rfl)
      | ((with_reducible refine e_p ?_ (mp19 h) ?_); focus rfl)
      | ((with_reducible refine e_p ?_ (mp20 h) ?_); focus rfl)
      | ((with_reducible refine e_p ?_ (mp21 h) ?_); focus rfl)
      | ((with_reducible refine e_o2 ?_ f0 ?_); focus (first | with_reducible rfl | (simp (disch := omega) only [b_all, sV_all, ↓reduceIte, Nat.reduceEqDiff, Nat.reduceLT, Nat.reduceLeDiff, Nat.reduceAdd, Nat.reduceMul, Nat.reduceSub, i_lit, eq_self, and_true, true_and, and_self, not_true_eq_false, not_false_eq_true, or_true, true_or, or_false, false_or, false_and, and_false, reduceCtorEq, Nat.add_left_cancel_iff, Nat.add_zero, Nat.zero_add, md_all h, en]; done)))
      | ((with_reducible refine e_ip ?_ ?_); focus (simp (disch := omega) only [b_all, sV_all, ↓reduceIte, Nat.reduceEqDiff, Nat.reduceLT, Nat.reduceLeDiff, Nat.reduceAdd, Nat.reduceMul, Nat.reduceSub, i_lit, eq_self, and_true, true_and, and_self, not_true_eq_false, not_false_eq_true, or_true, true_or, or_false, false_or, false_and, and_false, reduceCtorEq, Nat.add_left_cancel_iff, Nat.add_zero, Nat.zero_add, md_all h, en]; done))
      | ((with_reducible refine e_in ?_ ?_); focus (simp (disch := omega) only [b_all, sV_all, ↓reduceIte, Nat.reduceEqDiff, Nat.reduceLT, Nat.reduceLeDiff, Nat.reduceAdd, Nat.reduceMul, Nat.reduceSub, i_lit, eq_self, and_true, true_and, and_self, not_true_eq_false, not_false_eq_true, or_true, true_or, or_false, false_or, false_and, and_false, reduceCtorEq, Nat.add_left_cancel_iff, Nat.add_zero, Nat.zero_add, md_all h, en]; done))
      | unfold fX5_deliver_13
      | unfold fX5_deliver_18
      | fail)
    first | with_reducible rfl | simp (disch := omega) only [b_all, sV_all, ↓reduceIte, Nat.reduceEqDiff, Nat.reduceLT, Nat.reduceLeDiff, Nat.reduceAdd, Nat.reduceMul, Nat.reduceSub, i_lit, eq_self, and_true, true_and, and_self, not_true_eq_false, not_false_eq_true, or_true, true_or, or_false, false_or, false_and, and_false, reduceCtorEq, Nat.add_left_cancel_iff, Nat.add_zero, Nat.zero_add, md_all h, en]
  · repeat (first
      | (with_reducible refine e_l1 ?_)
      | ((with_reducible refine e_k ?_ (mkM h) ?_); focus rfl)
      | ((with_reducible refine e_p ?_ (mp1 h) ?_); focus rfl)
      | ((with_reducible refine e_p ?_ (mp2 h) ?_); focus rfl)
      | ((with_reducible refine e_p ?_ (mp3 h) ?_); focus rfl)
      | ((with_reducible refine e_p ?_ (mp4 h) ?_); focus rfl)
      | ((with_reducible refine e_p ?_ (mp5 h) ?_); focus rfl)
      | ((with_reducible refine e_p ?_ (mp6 h) ?_); focus rfl)
      | ((with_reducible refine e_p ?_ (mp7 h) ?_); focus rfl)
      | ((with_reducible refine e_p ?_ (mp8 h) ?_); focus rfl)
      | ((with_reducible refine e_p ?_ (mp9 h) ?_); focus rfl)
      | ((with_reducible refine e_p ?_ (mp10 h) ?_); focus rfl)
      | ((with_reducible refine e_p ?_ (mp11 h) ?_); focus rfl)
      | ((with_reducible refine e_p ?_ (mp12 h) ?_); focus rfl)
      | ((with_reducible refine e_p ?_ (mp13 h) ?_); focus rfl)
      | ((with_reducible refine e_p ?_ (mp14 h) ?_); focus rfl)
      | ((with_reducible refine e_p ?_ (mp15 h) ?_); focus rfl)
      | ((with_reducible refine e_p ?_ (mp16 h) ?_); focus rfl)
      | ((with_reducible refine e_p ?_ (mp17 h) ?_); focus rfl)
      | ((with_reducible refine e_p ?_ (mp18 h) ?_); focus rfl)
      | ((with_reducible refine e_p ?_ (mp19 h) ?_); focus rfl)
      | ((with_reducible refine e_p ?_ (mp20 h) ?_); focus rfl)
      | ((with_reducible refine e_p ?_ (mp21 h) ?_); focus rfl)
      | ((with_reducible refine e_o2 ?_ f0 ?_); focus (first | with_reducible rfl | (simp (disch := omega) only [b_all, sV_all, ↓reduceIte, Nat.reduceEqDiff, Nat.reduceLT, Nat.reduceLeDiff, Nat.reduceAdd, Nat.reduceMul, Nat.reduceSub, i_lit, eq_self, and_true, true_and, and_self, not_true_eq_false, not_false_eq_true, or_true, true_or, or_false, false_or, false_and, and_false, reduceCtorEq, Nat.add_left_cancel_iff, Nat.add_zero, Nat.zero_add, md_all h]; done)))
      | ((with_reducible refine e_ip ?_ ?_); focus (simp (disch := omega) only [b_all, sV_all, ↓reduceIte, Nat.reduceEqDiff, Nat.reduceLT, Nat.reduceLeDiff, Nat.reduceAdd, Nat.reduceMul, Nat.reduceSub, i_lit, eq_self, and_true, true_and, and_self, not_true_eq_false, not_false_eq_true, or_true, true_or, or_false, false_or, false_and, and_false, reduceCtorEq, Nat.add_left_cancel_iff, Nat.add_zero, Nat.zero_add, md_all h]; done))
      | ((with_reducible refine e_in ?_ ?_); focus (simp (disch := omega) only [b_all, sV_all, ↓reduceIte, Nat.reduceEqDiff, Nat.reduceLT, Nat.reduceLeDiff, Nat.reduceAdd, Nat.reduceMul, Nat.reduceSub, i_lit, eq_self, and_true, true_and, and_self, not_true_eq_false, not_false_eq_true, or_true, true_or, or_false, false_or, false_and, and_false, reduceCtorEq, Nat.add_left_cancel_iff, Nat.add_zero, Nat.zero_add, md_all h]; done))
      | unfold fX5_deliver_13
      | unfold fX5_deliver_18
      | fail)
    first | with_reducible rfl | simp (disch := omega) only [b_all, sV_all, ↓reduceIte, Nat.reduceEqDiff, Nat.reduceLT, Nat.reduceLeDiff, Nat.reduceAdd, Nat.reduceMul, Nat.reduceSub, i_lit, eq_self, and_true, true_and, and_self, not_true_eq_false, not_false_eq_true, or_true, true_or, or_false, false_or, false_and, and_false, reduceCtorEq, Nat.add_left_cancel_iff, Nat.add_zero, Nat.zero_add, md_all h]
theorem m_deliver_down (hk : 5000 ≤ k) (h : St x B C W M) (hb : Bd W) {i : Nat} (hi : i < W 0 23) (hto : W 20 (4 * i + 2) < 5) (hd : W 2 (W 20 (4 * i + 2)) ≠ 0) : ∃ M', fX5_deliver x k (B + 25) (i32 i) M = some (i32 0, M') ∧ St x B C (wTake (t0 W) i) M' := by
  have h0 := hb.1
  have f0 := s_fails0 (k := k) h 1
  obtain ⟨M1, e, h1⟩ := s_take (k := k) hk (show St x B C (t0 W) _ from su0 h 27 0) (i := i) hi h0.2.2.2.1
  have h2 : W 2 (W 20 (4 * i + 2)) < 2 := hb.r (by omega) _
  have r2 : wTake (t0 W) i 2 (W 20 (4 * i + 2)) = W 2 (W 20 (4 * i + 2)) := wTake_r _ _ (by omega) _
  refine ⟨M1, ?_, h1⟩
  unfold fX5_deliver
  repeat (first
    | (with_reducible refine e_l1 ?_)
    | ((with_reducible refine e_k ?_ (mkM h) ?_); focus rfl)
    | ((with_reducible refine e_p ?_ (mp1 h) ?_); focus rfl)
    | ((with_reducible refine e_p ?_ (mp2 h) ?_); focus rfl)
    | ((with_reducible refine e_p ?_ (mp3 h) ?_); focus rfl)
    | ((with_reducible refine e_p ?_ (mp4 h) ?_); focus rfl)
    | ((with_reducible refine e_p ?_ (mp5 h) ?_); focus rfl)
    | ((with_reducible refine e_p ?_ (mp6 h) ?_); focus rfl)
    | ((with_reducible refine e_p ?_ (mp7 h) ?_); focus rfl)
    | ((with_reducible refine e_p ?_ (mp8 h) ?_); focus rfl)
    | ((with_reducible refine e_p ?_ (mp9 h) ?_); focus rfl)
    | ((with_reducible refine e_p ?_ (mp10 h) ?_); focus rfl)
    | ((with_reducible refine e_p ?_ (mp11 h) ?_); focus rfl)
    | ((with_reducible refine e_p ?_ (mp12 h) ?_); focus rfl)
    | ((with_reducible refine e_p ?_ (mp13 h) ?_); focus rfl)
    | ((with_reducible refine e_p ?_ (mp14 h) ?_); focus rfl)
    | ((with_reducible refine e_p ?_ (mp15 h) ?_); focus rfl)
    | ((with_reducible refine e_p ?_ (mp16 h) ?_); focus rfl)
    | ((with_reducible refine e_p ?_ (mp17 h) ?_); focus rfl)
    | ((with_reducible refine e_p ?_ (mp18 h) ?_); focus rfl)
    | ((with_reducible refine e_p ?_ (mp19 h) ?_); focus rfl)
    | ((with_reducible refine e_p ?_ (mp20 h) ?_); focus rfl)
    | ((with_reducible refine e_p ?_ (mp21 h) ?_); focus rfl)
    | ((with_reducible refine e_k ?_ (mkM h1) ?_); focus rfl)
    | ((with_reducible refine e_p ?_ (mp1 h1) ?_); focus rfl)
    | ((with_reducible refine e_p ?_ (mp2 h1) ?_); focus rfl)
    | ((with_reducible refine e_p ?_ (mp3 h1) ?_); focus rfl)
    | ((with_reducible refine e_p ?_ (mp4 h1) ?_); focus rfl)
    | ((with_reducible refine e_p ?_ (mp5 h1) ?_); focus rfl)
    | ((with_reducible refine e_p ?_ (mp6 h1) ?_); focus rfl)
    | ((with_reducible refine e_p ?_ (mp7 h1) ?_); focus rfl)
    | ((with_reducible refine e_p ?_ (mp8 h1) ?_); focus rfl)
    | ((with_reducible refine e_p ?_ (mp9 h1) ?_); focus rfl)
    | ((with_reducible refine e_p ?_ (mp10 h1) ?_); focus rfl)
    | ((with_reducible refine e_p ?_ (mp11 h1) ?_); focus rfl)
    | ((with_reducible refine e_p ?_ (mp12 h1) ?_); focus rfl)
    | ((with_reducible refine e_p ?_ (mp13 h1) ?_); focus rfl)
    | ((with_reducible refine e_p ?_ (mp14 h1) ?_); focus rfl)
    | ((with_reducible refine e_p ?_ (mp15 h1) ?_); focus rfl)
    | ((with_reducible refine e_p ?_ (mp16 h1) ?_); focus rfl)
    | ((with_reducible refine e_p ?_ (mp17 h1) ?_); focus rfl)
    | ((with_reducible refine e_p ?_ (mp18 h1) ?_); focus rfl)
    | ((with_reducible refine e_p ?_ (mp19 h1) ?_); focus rfl)
    | ((with_reducible refine e_p ?_ (mp20 h1) ?_); focus rfl)
    | ((with_reducible refine e_p ?_ (mp21 h1) ?_); focus rfl)
    | ((with_reducible refine e_o2 ?_ f0 ?_); focus (first | with_reducible rfl | (simp (disch := omega) only [b_all, sV_all, ↓reduceIte, Nat.reduceEqDiff, Nat.reduceLT, Nat.reduceLeDiff, Nat.reduceAdd, Nat.reduceMul, Nat.reduceSub, i_lit, eq_self, and_true, true_and, and_self, not_true_eq_false, not_false_eq_true, or_true, true_or, or_false, false_or, false_and, and_false, reduceCtorEq, Nat.add_left_cancel_iff, Nat.add_zero, Nat.zero_add, md_all h, md_all h1, r2]; done)))
    | ((with_reducible refine e_o2 ?_ e ?_); focus (first | with_reducible rfl | (simp (disch := omega) only [b_all, sV_all, ↓reduceIte, Nat.reduceEqDiff, Nat.reduceLT, Nat.reduceLeDiff, Nat.reduceAdd, Nat.reduceMul, Nat.reduceSub, i_lit, eq_self, and_true, true_and, and_self, not_true_eq_false, not_false_eq_true, or_true, true_or, or_false, false_or, false_and, and_false, reduceCtorEq, Nat.add_left_cancel_iff, Nat.add_zero, Nat.zero_add, md_all h, md_all h1, r2]; done)))
    | ((with_reducible refine e_ip ?_ ?_); focus (simp (disch := omega) only [b_all, sV_all, ↓reduceIte, Nat.reduceEqDiff, Nat.reduceLT, Nat.reduceLeDiff, Nat.reduceAdd, Nat.reduceMul, Nat.reduceSub, i_lit, eq_self, and_true, true_and, and_self, not_true_eq_false, not_false_eq_true, or_true, true_or, or_false, false_or, false_and, and_false, reduceCtorEq, Nat.add_left_cancel_iff, Nat.add_zero, Nat.zero_add, md_all h, md_all h1, r2]; done))
    | ((with_reducible refine e_in ?_ ?_); focus (simp (disch := omega) only [b_all, sV_all, ↓reduceIte, Nat.reduceEqDiff, Nat.reduceLT, Nat.reduceLeDiff, Nat.reduceAdd, Nat.reduceMul, Nat.reduceSub, i_lit, eq_self, and_true, true_and, and_self, not_true_eq_false, not_false_eq_true, or_true, true_or, or_false, false_or, false_and, and_false, reduceCtorEq, Nat.add_left_cancel_iff, Nat.add_zero, Nat.zero_add, md_all h, md_all h1, r2]; done))
    | unfold fX5_deliver_18
    | fail)
  first | with_reducible rfl | simp (disch := omega) only [b_all, sV_all, ↓reduceIte, Nat.reduceEqDiff, Nat.reduceLT, Nat.reduceLeDiff, Nat.reduceAdd, Nat.reduceMul, Nat.reduceSub, i_lit, eq_self, and_true, true_and, and_self, not_true_eq_false, not_false_eq_true, or_true, true_or, or_false, false_or, false_and, and_false, reduceCtorEq, Nat.add_left_cancel_iff, Nat.add_zero, Nat.zero_add, md_all h, md_all h1, r2]
/-- ASK -/
theorem m_deliver_ask (hk : 5000 ≤ k) (h : St x B C W M) (hb : Bd W) {i : Nat} (hi : i < W 0 23) (hkd : W 20 (4 * i) = 1) (hto : W 20 (4 * i + 2) < 5) (ht : W 20 (4 * i + 3) < 200) (hd : W 2 (W 20 (4 * i + 2)) = 0) :
    (0 < W 8 (5 * W 20 (4 * i + 3) + W 20 (4 * i + 2)) → ∃ M', fX5_deliver x k (B + 25) (i32 i) M = some (i32 0, M') ∧ St x B C (wTake (t0 W) i) M') ∧
    (W 8 (5 * W 20 (4 * i + 3) + W 20 (4 * i + 2)) = 0 → (W 10 (5 * W 20 (4 * i + 3) + W 20 (4 * i + 2)) ≠ 0 ∨ ¬ allFit (wTake (t0 W) i) (W 20 (4 * i + 3)) (W 20 (4 * i + 2))) → ∃ M', fX5_deliver x k (B + 25) (i32 i) M = some (i32 0, M') ∧ St x B C (wSend (wTake (t0 W) i) 3 (W 20 (4 * i + 2)) (W 20 (4 * i + 1)) (W 20 (4 * i + 3))) M') ∧
    (W 8 (5 * W 20 (4 * i + 3) + W 20 (4 * i + 2)) = 0 → W 10 (5 * W 20 (4 * i + 3) + W 20 (4 * i + 2)) = 0 → allFit (wTake (t0 W) i) (W 20 (4 * i + 3)) (W 20 (4 * i + 2)) → ∃ M', fX5_deliver x k (B + 25) (i32 i) M = some (i32 0, M') ∧ St x B C (wSend (lk (wTake (t0 W) i) (W 20 (4 * i + 3)) (W 20 (4 * i + 2)) 20) 2 (W 20 (4 * i + 2)) (W 20 (4 * i + 1)) (W 20 (4 * i + 3))) M') := by
  have h0 := hb.1
  have f0 := s_fails0 (k := k) h 1
  obtain ⟨M1, e, h1⟩ := s_take (k := k) hk (show St x B C (t0 W) _ from su0 h 27 0) (i := i) hi h0.2.2.2.1
  have hb1 : Bd (wTake (t0 W) i) := bd_take hb.t0 i
  have h8 : W 8 (5 * W 20 (4 * i + 3) + W 20 (4 * i + 2)) < 1073741824 := hb.r (by omega) _
  have h10 : W 10 (5 * W 20 (4 * i + 3) + W 20 (4 * i + 2)) < 2 := hb.r (by omega) _
  have r2 : wTake (t0 W) i 2 (W 20 (4 * i + 2)) = W 2 (W 20 (4 * i + 2)) := wTake_r _ _ (by omega) _
  have r8 : wTake (t0 W) i 8 (5 * W 20 (4 * i + 3) + W 20 (4 * i + 2)) = W 8 (5 * W 20 (4 * i + 3) + W 20 (4 * i + 2)) := wTake_r _ _ (by omega) _
  have r10 : wTake (t0 W) i 10 (5 * W 20 (4 * i + 3) + W 20 (4 * i + 2)) = W 10 (5 * W 20 (4 * i + 3) + W 20 (4 * i + 2)) := wTake_r _ _ (by omega) _
  have ea := s_allFit (k := k) hk h1 hb1 ht hto
  refine ⟨fun c => ?_, fun c c' => ?_, fun c c' c'' => ?_⟩
  · refine ⟨M1, ?_, h1⟩
    unfold fX5_deliver
    repeat (first
      | (with_reducible refine e_l1 ?_)
      | ((with_reducible refine e_k ?_ (mkM h) ?_); focus rfl)
      | ((with_reducible refine e_p ?_ (mp1 h) ?_); focus rfl)
      | ((with_reducible refine e_p ?_ (mp2 h) ?_); focus rfl)
      | ((with_reducible refine e_p ?_ (mp3 h) ?_); focus rfl)
      | ((with_reducible refine e_p ?_ (mp4 h) ?_); focus rfl)
      | ((with_reducible refine e_p ?_ (mp5 h) ?_); focus rfl)
      | ((with_reducible refine e_p ?_ (mp6 h) ?_); focus rfl)
      | ((with_reducible refine e_p ?_ (mp7 h) ?_); focus rfl)
      | ((with_reducible refine e_p ?_ (mp8 h) ?_); focus rfl)
      | ((with_reducible refine e_p ?_ (mp9 h) ?_); focus rfl)
      | ((with_reducible refine e_p ?_ (mp10 h) ?_); focus rfl)
      | ((with_reducible refine e_p ?_ (mp11 h) ?_); focus rfl)
      | ((with_reducible refine e_p ?_ (mp12 h) ?_); focus rfl)
      | ((with_reducible refine e_p ?_ (mp13 h) ?_); focus rfl)
      | ((with_reducible refine e_p ?_ (mp14 h) ?_); focus rfl)
      | ((with_reducible refine e_p ?_ (mp15 h) ?_); focus rfl)
      | ((with_reducible refine e_p ?_ (mp16 h) ?_); focus rfl)
      | ((with_reducible refine e_p ?_ (mp17 h) ?_); focus rfl)
      | ((with_reducible refine e_p ?_ (mp18 h) ?_); focus rfl)
      | ((with_reducible refine e_p ?_ (mp19 h) ?_); focus rfl)
      | ((with_reducible refine e_p ?_ (mp20 h) ?_); focus rfl)
      | ((with_reducible refine e_p ?_ (mp21 h) ?_); focus rfl)
      | ((with_reducible refine e_k ?_ (mkM h1) ?_); focus rfl)
      | ((with_reducible refine e_p ?_ (mp1 h1) ?_); focus rfl)
      | ((with_reducible refine e_p ?_ (mp2 h1) ?_); focus rfl)
      | ((with_reducible refine e_p ?_ (mp3 h1) ?_); focus rfl)
      | ((with_reducible refine e_p ?_ (mp4 h1) ?_); focus rfl)
      | ((with_reducible refine e_p ?_ (mp5 h1) ?_); focus rfl)
      | ((with_reducible refine e_p ?_ (mp6 h1) ?_); focus rfl)
      | ((with_reducible refine e_p ?_ (mp7 h1) ?_); focus rfl)
      | ((with_reducible refine e_p ?_ (mp8 h1) ?_); focus rfl)
      | ((with_reducible refine e_p ?_ (mp9 h1) ?_); focus rfl)
      | ((with_reducible refine e_p ?_ (mp10 h1) ?_); focus rfl)
      | ((with_reducible refine e_p ?_ (mp11 h1) ?_); focus rfl)
      | ((with_reducible refine e_p ?_ (mp12 h1) ?_); focus rfl)
      | ((with_reducible refine e_p ?_ (mp13 h1) ?_); focus rfl)
      | ((with_reducible refine e_p ?_ (mp14 h1) ?_); focus rfl)
      | ((with_reducible refine e_p ?_ (mp15 h1) ?_); focus rfl)
      | ((with_reducible refine e_p ?_ (mp16 h1) ?_); focus rfl)
      | ((with_reducible refine e_p ?_ (mp17 h1) ?_); focus rfl)
      | ((with_reducible refine e_p ?_ (mp18 h1) ?_); focus rfl)
      | ((with_reducible refine e_p ?_ (mp19 h1) ?_); focus rfl)
      | ((with_reducible refine e_p ?_ (mp20 h1) ?_); focus rfl)
      | ((with_reducible refine e_p ?_ (mp21 h1) ?_); focus rfl)
      | ((with_reducible refine e_o2 ?_ f0 ?_); focus (first | with_reducible rfl | (simp (disch := omega) only [b_all, sV_all, ↓reduceIte, Nat.reduceEqDiff, Nat.reduceLT, Nat.reduceLeDiff, Nat.reduceAdd, Nat.reduceMul, Nat.reduceSub, i_lit, eq_self, and_true, true_and, and_self, not_true_eq_false, not_false_eq_true, or_true, true_or, or_false, false_or, false_and, and_false, reduceCtorEq, Nat.add_left_cancel_iff, Nat.add_zero, Nat.zero_add, md_all h, md_all h1, r2, r8, hd, hkd]; done)))
      | ((with_reducible refine e_o2 ?_ e ?_); focus (first | with_reducible rfl | (simp (disch := omega) only [b_all, sV_all, ↓reduceIte, Nat.reduceEqDiff, Nat.reduceLT, Nat.reduceLeDiff, Nat.reduceAdd, Nat.reduceMul, Nat.reduceSub, i_lit, eq_self, and_true, true_and, and_self, not_true_eq_false, not_false_eq_true, or_true, true_or, or_false, false_or, false_and, and_false, reduceCtorEq, Nat.add_left_cancel_iff, Nat.add_zero, Nat.zero_add, md_all h, md_all h1, r2, r8, hd, hkd]; done)))
      | ((with_reducible refine e_ip ?_ ?_); focus (simp (disch := omega) only [b_all, sV_all, ↓reduceIte, Nat.reduceEqDiff, Nat.reduceLT, Nat.reduceLeDiff, Nat.reduceAdd, Nat.reduceMul, Nat.reduceSub, i_lit, eq_self, and_true, true_and, and_self, not_true_eq_false, not_false_eq_true, or_true, true_or, or_false, false_or, false_and, and_false, reduceCtorEq, Nat.add_left_cancel_iff, Nat.add_zero, Nat.zero_add, md_all h, md_all h1, r2, r8, hd, hkd]; done))
      | ((with_reducible refine e_in ?_ ?_); focus (simp (disch := omega) only [b_all, sV_all, ↓reduceIte, Nat.reduceEqDiff, Nat.reduceLT, Nat.reduceLeDiff, Nat.reduceAdd, Nat.reduceMul, Nat.reduceSub, i_lit, eq_self, and_true, true_and, and_self, not_true_eq_false, not_false_eq_true, or_true, true_or, or_false, false_or, false_and, and_false, reduceCtorEq, Nat.add_left_cancel_iff, Nat.add_zero, Nat.zero_add, md_all h, md_all h1, r2, r8, hd, hkd]; done))
      | unfold fX5_deliver_18
      | fail)
    first | with_reducible rfl | simp (disch := omega) only [b_all, sV_all, ↓reduceIte, Nat.reduceEqDiff, Nat.reduceLT, Nat.reduceLeDiff, Nat.reduceAdd, Nat.reduceMul, Nat.reduceSub, i_lit, eq_self, and_true, true_and, and_self, not_true_eq_false, not_false_eq_true, or_true, true_or, or_false, false_or, false_and, and_false, reduceCtorEq, Nat.add_left_cancel_iff, Nat.add_zero, Nat.zero_add, md_all h, md_all h1, r2, r8, hd, hkd]
  · obtain ⟨M2, e2, h2⟩ := s_send (k := k) h1 hb1.1.2.2.2.1 3 (W 20 (4 * i + 2)) (W 20 (4 * i + 1)) (W 20 (4 * i + 3))
    refine ⟨M2, ?_, h2⟩
    by_cases q : W 10 (5 * W 20 (4 * i + 3) + W 20 (4 * i + 2)) = 0
    · have q2 : ¬ allFit (wTake (t0 W) i) (W 20 (4 * i + 3)) (W 20 (4 * i + 2)) := by
        rcases c' with z | z
        · exact absurd q z
        · exact z
      unfold fX5_deliver
      repeat (first
        | (with_reducible refine e_l1 ?_)
        | ((with_reducible refine e_k ?_ (mkM h) ?_); focus rfl)
        | ((with_reducible refine e_p ?_ (mp1 h) ?_); focus rfl)
        | ((with_reducible refine e_p ?_ (mp2 h) ?_); focus rfl)
        | ((with_reducible refine e_p ?_ (mp3 h) ?_); focus rfl)
        | ((with_reducible refine e_p ?_ (mp4 h) ?_); focus rfl)
        | ((with_reducible refine e_p ?_ (mp5 h) ?_); focus rfl)
        | ((with_reducible refine e_p ?_ (mp6 h) ?_); focus rfl)
        | ((with_reducible refine e_p ?_ (mp7 h) ?_); focus rfl)
        | ((with_reducible refine e_p ?_ (mp8 h) ?_); focus rfl)
        | ((with_reducible refine e_p ?_ (mp9 h) ?_); focus rfl)
        | ((with_reducible refine e_p ?_ (mp10 h) ?_); focus rfl)
        | ((with_reducible refine e_p ?_ (mp11 h) ?_); focus rfl)
        | ((with_reducible refine e_p ?_ (mp12 h) ?_); focus rfl)
        | ((with_reducible refine e_p ?_ (mp13 h) ?_); focus rfl)
        | ((with_reducible refine e_p ?_ (mp14 h) ?_); focus rfl)
        | ((with_reducible refine e_p ?_ (mp15 h) ?_); focus rfl)
        | ((with_reducible refine e_p ?_ (mp16 h) ?_); focus rfl)
        | ((with_reducible refine e_p ?_ (mp17 h) ?_); focus rfl)
        | ((with_reducible refine e_p ?_ (mp18 h) ?_); focus rfl)
        | ((with_reducible refine e_p ?_ (mp19 h) ?_); focus rfl)
        | ((with_reducible refine e_p ?_ (mp20 h) ?_); focus rfl)
        | ((with_reducible refine e_p ?_ (mp21 h) ?_); focus rfl)
        | ((with_reducible refine e_k ?_ (mkM h1) ?_); focus rfl)
        | ((with_reducible refine e_p ?_ (mp1 h1) ?_); focus rfl)
        | ((with_reducible refine e_p ?_ (mp2 h1) ?_); focus rfl)
        | ((with_reducible refine e_p ?_ (mp3 h1) ?_); focus rfl)
        | ((with_reducible refine e_p ?_ (mp4 h1) ?_); focus rfl)
        | ((with_reducible refine e_p ?_ (mp5 h1) ?_); focus rfl)
        | ((with_reducible refine e_p ?_ (mp6 h1) ?_); focus rfl)
        | ((with_reducible refine e_p ?_ (mp7 h1) ?_); focus rfl)
        | ((with_reducible refine e_p ?_ (mp8 h1) ?_); focus rfl)
        | ((with_reducible refine e_p ?_ (mp9 h1) ?_); focus rfl)
        | ((with_reducible refine e_p ?_ (mp10 h1) ?_); focus rfl)
        | ((with_reducible refine e_p ?_ (mp11 h1) ?_); focus rfl)
        | ((with_reducible refine e_p ?_ (mp12 h1) ?_); focus rfl)
        | ((with_reducible refine e_p ?_ (mp13 h1) ?_); focus rfl)
        | ((with_reducible refine e_p ?_ (mp14 h1) ?_); focus rfl)
        | ((with_reducible refine e_p ?_ (mp15 h1) ?_); focus rfl)
        | ((with_reducible refine e_p ?_ (mp16 h1) ?_); focus rfl)
        | ((with_reducible refine e_p ?_ (mp17 h1) ?_); focus rfl)
        | ((with_reducible refine e_p ?_ (mp18 h1) ?_); focus rfl)
        | ((with_reducible refine e_p ?_ (mp19 h1) ?_); focus rfl)
        | ((with_reducible refine e_p ?_ (mp20 h1) ?_); focus rfl)
        | ((with_reducible refine e_p ?_ (mp21 h1) ?_); focus rfl)
        | ((with_reducible refine e_o2 ?_ f0 ?_); focus (first | with_reducible rfl | (simp (disch := omega) only [b_all, sV_all, ↓reduceIte, Nat.reduceEqDiff, Nat.reduceLT, Nat.reduceLeDiff, Nat.reduceAdd, Nat.reduceMul, Nat.reduceSub, i_lit, eq_self, and_true, true_and, and_self, not_true_eq_false, not_false_eq_true, or_true, true_or, or_false, false_or, false_and, and_false, reduceCtorEq, Nat.add_left_cancel_iff, Nat.add_zero, Nat.zero_add, md_all h, md_all h1, r2, r8, r10, hd, hkd, q2]; done)))
        | ((with_reducible refine e_o2 ?_ e ?_); focus (first | with_reducible rfl | (simp (disch := omega) only [b_all, sV_all, ↓reduceIte, Nat.reduceEqDiff, Nat.reduceLT, Nat.reduceLeDiff, Nat.reduceAdd, Nat.reduceMul, Nat.reduceSub, i_lit, eq_self, and_true, true_and, and_self, not_true_eq_false, not_false_eq_true, or_true, true_or, or_false, false_or, false_and, and_false, reduceCtorEq, Nat.add_left_cancel_iff, Nat.add_zero, Nat.zero_add, md_all h, md_all h1, r2, r8, r10, hd, hkd, q2]; done)))
        | ((with_reducible refine e_o2 ?_ ea ?_); focus (first | with_reducible rfl | (simp (disch := omega) only [b_all, sV_all, ↓reduceIte, Nat.reduceEqDiff, Nat.reduceLT, Nat.reduceLeDiff, Nat.reduceAdd, Nat.reduceMul, Nat.reduceSub, i_lit, eq_self, and_true, true_and, and_self, not_true_eq_false, not_false_eq_true, or_true, true_or, or_false, false_or, false_and, and_false, reduceCtorEq, Nat.add_left_cancel_iff, Nat.add_zero, Nat.zero_add, md_all h, md_all h1, r2, r8, r10, hd, hkd, q2]; done)))
        | ((with_reducible refine e_o2 ?_ e2 ?_); focus (first | with_reducible rfl | (simp (disch := omega) only [b_all, sV_all, ↓reduceIte, Nat.reduceEqDiff, Nat.reduceLT, Nat.reduceLeDiff, Nat.reduceAdd, Nat.reduceMul, Nat.reduceSub, i_lit, eq_self, and_true, true_and, and_self, not_true_eq_false, not_false_eq_true, or_true, true_or, or_false, false_or, false_and, and_false, reduceCtorEq, Nat.add_left_cancel_iff, Nat.add_zero, Nat.zero_add, md_all h, md_all h1, r2, r8, r10, hd, hkd, q2]; done)))
        | ((with_reducible refine e_ip ?_ ?_); focus (simp (disch := omega) only [b_all, sV_all, ↓reduceIte, Nat.reduceEqDiff, Nat.reduceLT, Nat.reduceLeDiff, Nat.reduceAdd, Nat.reduceMul, Nat.reduceSub, i_lit, eq_self, and_true, true_and, and_self, not_true_eq_false, not_false_eq_true, or_true, true_or, or_false, false_or, false_and, and_false, reduceCtorEq, Nat.add_left_cancel_iff, Nat.add_zero, Nat.zero_add, md_all h, md_all h1, r2, r8, r10, hd, hkd, q2]; done))
        | ((with_reducible refine e_in ?_ ?_); focus (simp (disch := omega) only [b_all, sV_all, ↓reduceIte, Nat.reduceEqDiff, Nat.reduceLT, Nat.reduceLeDiff, Nat.reduceAdd, Nat.reduceMul, Nat.reduceSub, i_lit, eq_self, and_true, true_and, and_self, not_true_eq_false, not_false_eq_true, or_true, true_or, or_false, false_or, false_and, and_false, reduceCtorEq, Nat.add_left_cancel_iff, Nat.add_zero, Nat.zero_add, md_all h, md_all h1, r2, r8, r10, hd, hkd, q2]; done))
        | unfold fX5_deliver_18
        | unfold fX5_deliver_136
        | unfold fX5_deliver_167
        | fail)
      first | with_reducible rfl | simp (disch := omega) only [b_all, sV_all, ↓reduceIte, Nat.reduceEqDiff, Nat.reduceLT, Nat.reduceLeDiff, Nat.reduceAdd, Nat.reduceMul, Nat.reduceSub, i_lit, eq_self, and_true, true_and, and_self, not_true_eq_false, not_false_eq_true, or_true, true_or, or_false, false_or, false_and, and_false, reduceCtorEq, Nat.add_left_cancel_iff, Nat.add_zero, Nat.zero_add, md_all h, md_all h1, r2, r8, r10, hd, hkd, q2]
    · unfold fX5_deliver
      repeat (first
        | (with_reducible refine e_l1 ?_)
        | ((with_reducible refine e_k ?_ (mkM h) ?_); focus rfl)
        | ((with_reducible refine e_p ?_ (mp1 h) ?_); focus rfl)
        | ((with_reducible refine e_p ?_ (mp2 h) ?_); focus rfl)
        | ((with_reducible refine e_p ?_ (mp3 h) ?_); focus rfl)
        | ((with_reducible refine e_p ?_ (mp4 h) ?_); focus rfl)
        | ((with_reducible refine e_p ?_ (mp5 h) ?_); focus rfl)
        | ((with_reducible refine e_p ?_ (mp6 h) ?_); focus rfl)
        | ((with_reducible refine e_p ?_ (mp7 h) ?_); focus rfl)
        | ((with_reducible refine e_p ?_ (mp8 h) ?_); focus rfl)
        | ((with_reducible refine e_p ?_ (mp9 h) ?_); focus rfl)
        | ((with_reducible refine e_p ?_ (mp10 h) ?_); focus rfl)
        | ((with_reducible refine e_p ?_ (mp11 h) ?_); focus rfl)
        | ((with_reducible refine e_p ?_ (mp12 h) ?_); focus rfl)
        | ((with_reducible refine e_p ?_ (mp13 h) ?_); focus rfl)
        | ((with_reducible refine e_p ?_ (mp14 h) ?_); focus rfl)
        | ((with_reducible refine e_p ?_ (mp15 h) ?_); focus rfl)
        | ((with_reducible refine e_p ?_ (mp16 h) ?_); focus rfl)
        | ((with_reducible refine e_p ?_ (mp17 h) ?_); focus rfl)
        | ((with_reducible refine e_p ?_ (mp18 h) ?_); focus rfl)
        | ((with_reducible refine e_p ?_ (mp19 h) ?_); focus rfl)
        | ((with_reducible refine e_p ?_ (mp20 h) ?_); focus rfl)
        | ((with_reducible refine e_p ?_ (mp21 h) ?_); focus rfl)
        | ((with_reducible refine e_k ?_ (mkM h1) ?_); focus rfl)
        | ((with_reducible refine e_p ?_ (mp1 h1) ?_); focus rfl)
        | ((with_reducible refine e_p ?_ (mp2 h1) ?_); focus rfl)
        | ((with_reducible refine e_p ?_ (mp3 h1) ?_); focus rfl)
        | ((with_reducible refine e_p ?_ (mp4 h1) ?_); focus rfl)
        | ((with_reducible refine e_p ?_ (mp5 h1) ?_); focus rfl)
        | ((with_reducible refine e_p ?_ (mp6 h1) ?_); focus rfl)
        | ((with_reducible refine e_p ?_ (mp7 h1) ?_); focus rfl)
        | ((with_reducible refine e_p ?_ (mp8 h1) ?_); focus rfl)
        | ((with_reducible refine e_p ?_ (mp9 h1) ?_); focus rfl)
        | ((with_reducible refine e_p ?_ (mp10 h1) ?_); focus rfl)
        | ((with_reducible refine e_p ?_ (mp11 h1) ?_); focus rfl)
        | ((with_reducible refine e_p ?_ (mp12 h1) ?_); focus rfl)
        | ((with_reducible refine e_p ?_ (mp13 h1) ?_); focus rfl)
        | ((with_reducible refine e_p ?_ (mp14 h1) ?_); focus rfl)
        | ((with_reducible refine e_p ?_ (mp15 h1) ?_); focus rfl)
        | ((with_reducible refine e_p ?_ (mp16 h1) ?_); focus rfl)
        | ((with_reducible refine e_p ?_ (mp17 h1) ?_); focus rfl)
        | ((with_reducible refine e_p ?_ (mp18 h1) ?_); focus rfl)
        | ((with_reducible refine e_p ?_ (mp19 h1) ?_); focus rfl)
        | ((with_reducible refine e_p ?_ (mp20 h1) ?_); focus rfl)
        | ((with_reducible refine e_p ?_ (mp21 h1) ?_); focus rfl)
        | ((with_reducible refine e_o2 ?_ f0 ?_); focus (first | with_reducible rfl | (simp (disch := omega) only [b_all, sV_all, ↓reduceIte, Nat.reduceEqDiff, Nat.reduceLT, Nat.reduceLeDiff, Nat.reduceAdd, Nat.reduceMul, Nat.reduceSub, i_lit, eq_self, and_true, true_and, and_self, not_true_eq_false, not_false_eq_true, or_true, true_or, or_false, false_or, false_and, and_false, reduceCtorEq, Nat.add_left_cancel_iff, Nat.add_zero, Nat.zero_add, md_all h, md_all h1, r2, r8, r10, hd, hkd]; done)))
        | ((with_reducible refine e_o2 ?_ e ?_); focus (first | with_reducible rfl | (simp (disch := omega) only [b_all, sV_all, ↓reduceIte, Nat.reduceEqDiff, Nat.reduceLT, Nat.reduceLeDiff, Nat.reduceAdd, Nat.reduceMul, Nat.reduceSub, i_lit, eq_self, and_true, true_and, and_self, not_true_eq_false, not_false_eq_true, or_true, true_or, or_false, false_or, false_and, and_false, reduceCtorEq, Nat.add_left_cancel_iff, Nat.add_zero, Nat.zero_add, md_all h, md_all h1, r2, r8, r10, hd, hkd]; done)))
        | ((with_reducible refine e_o2 ?_ ea ?_); focus (first | with_reducible rfl | (simp (disch := omega) only [b_all, sV_all, ↓reduceIte, Nat.reduceEqDiff, Nat.reduceLT, Nat.reduceLeDiff, Nat.reduceAdd, Nat.reduceMul, Nat.reduceSub, i_lit, eq_self, and_true, true_and, and_self, not_true_eq_false, not_false_eq_true, or_true, true_or, or_false, false_or, false_and, and_false, reduceCtorEq, Nat.add_left_cancel_iff, Nat.add_zero, Nat.zero_add, md_all h, md_all h1, r2, r8, r10, hd, hkd]; done)))
        | ((with_reducible refine e_o2 ?_ e2 ?_); focus (first | with_reducible rfl | (simp (disch := omega) only [b_all, sV_all, ↓reduceIte, Nat.reduceEqDiff, Nat.reduceLT, Nat.reduceLeDiff, Nat.reduceAdd, Nat.reduceMul, Nat.reduceSub, i_lit, eq_self, and_true, true_and, and_self, not_true_eq_false, not_false_eq_true, or_true, true_or, or_false, false_or, false_and, and_false, reduceCtorEq, Nat.add_left_cancel_iff, Nat.add_zero, Nat.zero_add, md_all h, md_all h1, r2, r8, r10, hd, hkd]; done)))
        | ((with_reducible refine e_ip ?_ ?_); focus (simp (disch := omega) only [b_all, sV_all, ↓reduceIte, Nat.reduceEqDiff, Nat.reduceLT, Nat.reduceLeDiff, Nat.reduceAdd, Nat.reduceMul, Nat.reduceSub, i_lit, eq_self, and_true, true_and, and_self, not_true_eq_false, not_false_eq_true, or_true, true_or, or_false, false_or, false_and, and_false, reduceCtorEq, Nat.add_left_cancel_iff, Nat.add_zero, Nat.zero_add, md_all h, md_all h1, r2, r8, r10, hd, hkd]; done))
        | ((with_reducible refine e_in ?_ ?_); focus (simp (disch := omega) only [b_all, sV_all, ↓reduceIte, Nat.reduceEqDiff, Nat.reduceLT, Nat.reduceLeDiff, Nat.reduceAdd, Nat.reduceMul, Nat.reduceSub, i_lit, eq_self, and_true, true_and, and_self, not_true_eq_false, not_false_eq_true, or_true, true_or, or_false, false_or, false_and, and_false, reduceCtorEq, Nat.add_left_cancel_iff, Nat.add_zero, Nat.zero_add, md_all h, md_all h1, r2, r8, r10, hd, hkd]; done))
        | unfold fX5_deliver_18
        | unfold fX5_deliver_136
        | unfold fX5_deliver_167
        | fail)
      first | with_reducible rfl | simp (disch := omega) only [b_all, sV_all, ↓reduceIte, Nat.reduceEqDiff, Nat.reduceLT, Nat.reduceLeDiff, Nat.reduceAdd, Nat.reduceMul, Nat.reduceSub, i_lit, eq_self, and_true, true_and, and_self, not_true_eq_false, not_false_eq_true, or_true, true_or, or_false, false_or, false_and, and_false, reduceCtorEq, Nat.add_left_cancel_iff, Nat.add_zero, Nat.zero_add, md_all h, md_all h1, r2, r8, r10, hd, hkd]
  · obtain ⟨M2, e2, h2⟩ := s_lock (k := k) hk h1 hb1 ht hto
    obtain ⟨M3, e3, h3⟩ := s_send (k := k) h2 (bd_lk hb1 ht _ 20).1.2.2.2.1 2 (W 20 (4 * i + 2)) (W 20 (4 * i + 1)) (W 20 (4 * i + 3))
    refine ⟨M3, ?_, h3⟩
    unfold fX5_deliver
    repeat (first
      | (with_reducible refine e_l1 ?_)
      | ((with_reducible refine e_k ?_ (mkM h) ?_); focus rfl)
      | ((with_reducible refine e_p ?_ (mp1 h) ?_); focus rfl)
      | ((with_reducible refine e_p ?_ (mp2 h) ?_); focus rfl)
      | ((with_reducible refine e_p ?_ (mp3 h) ?_); focus rfl)
      | ((with_reducible refine e_p ?_ (mp4 h) ?_); focus rfl)
      | ((with_reducible refine e_p ?_ (mp5 h) ?_); focus rfl)
      | ((with_reducible refine e_p ?_ (mp6 h) ?_); focus rfl)
      | ((with_reducible refine e_p ?_ (mp7 h) ?_); focus rfl)
      | ((with_reducible refine e_p ?_ (mp8 h) ?_); focus rfl)
      | ((with_reducible refine e_p ?_ (mp9 h) ?_); focus rfl)
      | ((with_reducible refine e_p ?_ (mp10 h) ?_); focus rfl)
      | ((with_reducible refine e_p ?_ (mp11 h) ?_); focus rfl)
      | ((with_reducible refine e_p ?_ (mp12 h) ?_); focus rfl)
      | ((with_reducible refine e_p ?_ (mp13 h) ?_); focus rfl)
      | ((with_reducible refine e_p ?_ (mp14 h) ?_); focus rfl)
      | ((with_reducible refine e_p ?_ (mp15 h) ?_); focus rfl)
      | ((with_reducible refine e_p ?_ (mp16 h) ?_); focus rfl)
      | ((with_reducible refine e_p ?_ (mp17 h) ?_); focus rfl)
      | ((with_reducible refine e_p ?_ (mp18 h) ?_); focus rfl)
      | ((with_reducible refine e_p ?_ (mp19 h) ?_); focus rfl)
      | ((with_reducible refine e_p ?_ (mp20 h) ?_); focus rfl)
      | ((with_reducible refine e_p ?_ (mp21 h) ?_); focus rfl)
      | ((with_reducible refine e_k ?_ (mkM h1) ?_); focus rfl)
      | ((with_reducible refine e_p ?_ (mp1 h1) ?_); focus rfl)
      | ((with_reducible refine e_p ?_ (mp2 h1) ?_); focus rfl)
      | ((with_reducible refine e_p ?_ (mp3 h1) ?_); focus rfl)
      | ((with_reducible refine e_p ?_ (mp4 h1) ?_); focus rfl)
      | ((with_reducible refine e_p ?_ (mp5 h1) ?_); focus rfl)
      | ((with_reducible refine e_p ?_ (mp6 h1) ?_); focus rfl)
      | ((with_reducible refine e_p ?_ (mp7 h1) ?_); focus rfl)
      | ((with_reducible refine e_p ?_ (mp8 h1) ?_); focus rfl)
      | ((with_reducible refine e_p ?_ (mp9 h1) ?_); focus rfl)
      | ((with_reducible refine e_p ?_ (mp10 h1) ?_); focus rfl)
      | ((with_reducible refine e_p ?_ (mp11 h1) ?_); focus rfl)
      | ((with_reducible refine e_p ?_ (mp12 h1) ?_); focus rfl)
      | ((with_reducible refine e_p ?_ (mp13 h1) ?_); focus rfl)
      | ((with_reducible refine e_p ?_ (mp14 h1) ?_); focus rfl)
      | ((with_reducible refine e_p ?_ (mp15 h1) ?_); focus rfl)
      | ((with_reducible refine e_p ?_ (mp16 h1) ?_); focus rfl)
      | ((with_reducible refine e_p ?_ (mp17 h1) ?_); focus rfl)
      | ((with_reducible refine e_p ?_ (mp18 h1) ?_); focus rfl)
      | ((with_reducible refine e_p ?_ (mp19 h1) ?_); focus rfl)
      | ((with_reducible refine e_p ?_ (mp20 h1) ?_); focus rfl)
      | ((with_reducible refine e_p ?_ (mp21 h1) ?_); focus rfl)
      | ((with_reducible refine e_k ?_ (mkM h2) ?_); focus rfl)
      | ((with_reducible refine e_p ?_ (mp1 h2) ?_); focus rfl)
      | ((with_reducible refine e_p ?_ (mp2 h2) ?_); focus rfl)
      | ((with_reducible refine e_p ?_ (mp3 h2) ?_); focus rfl)
      | ((with_reducible refine e_p ?_ (mp4 h2) ?_); focus rfl)
      | ((with_reducible refine e_p ?_ (mp5 h2) ?_); focus rfl)
      | ((with_reducible refine e_p ?_ (mp6 h2) ?_); focus rfl)
      | ((with_reducible refine e_p ?_ (mp7 h2) ?_); focus rfl)
      | ((with_reducible refine e_p ?_ (mp8 h2) ?_); focus rfl)
      | ((with_reducible refine e_p ?_ (mp9 h2) ?_); focus rfl)
      | ((with_reducible refine e_p ?_ (mp10 h2) ?_); focus rfl)
      | ((with_reducible refine e_p ?_ (mp11 h2) ?_); focus rfl)
      | ((with_reducible refine e_p ?_ (mp12 h2) ?_); focus rfl)
      | ((with_reducible refine e_p ?_ (mp13 h2) ?_); focus rfl)
      | ((with_reducible refine e_p ?_ (mp14 h2) ?_); focus rfl)
      | ((with_reducible refine e_p ?_ (mp15 h2) ?_); focus rfl)
      | ((with_reducible refine e_p ?_ (mp16 h2) ?_); focus rfl)
      | ((with_reducible refine e_p ?_ (mp17 h2) ?_); focus rfl)
      | ((with_reducible refine e_p ?_ (mp18 h2) ?_); focus rfl)
      | ((with_reducible refine e_p ?_ (mp19 h2) ?_); focus rfl)
      | ((with_reducible refine e_p ?_ (mp20 h2) ?_); focus rfl)
      | ((with_reducible refine e_p ?_ (mp21 h2) ?_); focus rfl)
      | ((with_reducible refine e_o2 ?_ f0 ?_); focus (first | with_reducible rfl | (simp (disch := omega) only [b_all, sV_all, ↓reduceIte, Nat.reduceEqDiff, Nat.reduceLT, Nat.reduceLeDiff, Nat.reduceAdd, Nat.reduceMul, Nat.reduceSub, i_lit, eq_self, and_true, true_and, and_self, not_true_eq_false, not_false_eq_true, or_true, true_or, or_false, false_or, false_and, and_false, reduceCtorEq, Nat.add_left_cancel_iff, Nat.add_zero, Nat.zero_add, md_all h, md_all h1, md_all h2, r2, r8, r10, hd, hkd, c'']; done)))
      | ((with_reducible refine e_o2 ?_ e ?_); focus (first | with_reducible rfl | (simp (disch := omega) only [b_all, sV_all, ↓reduceIte, Nat.reduceEqDiff, Nat.reduceLT, Nat.reduceLeDiff, Nat.reduceAdd, Nat.reduceMul, Nat.reduceSub, i_lit, eq_self, and_true, true_and, and_self, not_true_eq_false, not_false_eq_true, or_true, true_or, or_false, false_or, false_and, and_false, reduceCtorEq, Nat.add_left_cancel_iff, Nat.add_zero, Nat.zero_add, md_all h, md_all h1, md_all h2, r2, r8, r10, hd, hkd, c'']; done)))
      | ((with_reducible refine e_o2 ?_ ea ?_); focus (first | with_reducible rfl | (simp (disch := omega) only [b_all, sV_all, ↓reduceIte, Nat.reduceEqDiff, Nat.reduceLT, Nat.reduceLeDiff, Nat.reduceAdd, Nat.reduceMul, Nat.reduceSub, i_lit, eq_self, and_true, true_and, and_self, not_true_eq_false, not_false_eq_true, or_true, true_or, or_false, false_or, false_and, and_false, reduceCtorEq, Nat.add_left_cancel_iff, Nat.add_zero, Nat.zero_add, md_all h, md_all h1, md_all h2, r2, r8, r10, hd, hkd, c'']; done)))
      | ((with_reducible refine e_o2 ?_ e2 ?_); focus (first | with_reducible rfl | (simp (disch := omega) only [b_all, sV_all, ↓reduceIte, Nat.reduceEqDiff, Nat.reduceLT, Nat.reduceLeDiff, Nat.reduceAdd, Nat.reduceMul, Nat.reduceSub, i_lit, eq_self, and_true, true_and, and_self, not_true_eq_false, not_false_eq_true, or_true, true_or, or_false, false_or, false_and, and_false, reduceCtorEq, Nat.add_left_cancel_iff, Nat.add_zero, Nat.zero_add, md_all h, md_all h1, md_all h2, r2, r8, r10, hd, hkd, c'']; done)))
      | ((with_reducible refine e_o2 ?_ e3 ?_); focus (first | with_reducible rfl | (simp (disch := omega) only [b_all, sV_all, ↓reduceIte, Nat.reduceEqDiff, Nat.reduceLT, Nat.reduceLeDiff, Nat.reduceAdd, Nat.reduceMul, Nat.reduceSub, i_lit, eq_self, and_true, true_and, and_self, not_true_eq_false, not_false_eq_true, or_true, true_or, or_false, false_or, false_and, and_false, reduceCtorEq, Nat.add_left_cancel_iff, Nat.add_zero, Nat.zero_add, md_all h, md_all h1, md_all h2, r2, r8, r10, hd, hkd, c'']; done)))
      | ((with_reducible refine e_ip ?_ ?_); focus (simp (disch := omega) only [b_all, sV_all, ↓reduceIte, Nat.reduceEqDiff, Nat.reduceLT, Nat.reduceLeDiff, Nat.reduceAdd, Nat.reduceMul, Nat.reduceSub, i_lit, eq_self, and_true, true_and, and_self, not_true_eq_false, not_false_eq_true, or_true, true_or, or_false, false_or, false_and, and_false, reduceCtorEq, Nat.add_left_cancel_iff, Nat.add_zero, Nat.zero_add, md_all h, md_all h1, md_all h2, r2, r8, r10, hd, hkd, c'']; done))
      | ((with_reducible refine e_in ?_ ?_); focus (simp (disch := omega) only [b_all, sV_all, ↓reduceIte, Nat.reduceEqDiff, Nat.reduceLT, Nat.reduceLeDiff, Nat.reduceAdd, Nat.reduceMul, Nat.reduceSub, i_lit, eq_self, and_true, true_and, and_self, not_true_eq_false, not_false_eq_true, or_true, true_or, or_false, false_or, false_and, and_false, reduceCtorEq, Nat.add_left_cancel_iff, Nat.add_zero, Nat.zero_add, md_all h, md_all h1, md_all h2, r2, r8, r10, hd, hkd, c'']; done))
      | unfold fX5_deliver_18
      | unfold fX5_deliver_167
      | fail)
    first | with_reducible rfl | simp (disch := omega) only [b_all, sV_all, ↓reduceIte, Nat.reduceEqDiff, Nat.reduceLT, Nat.reduceLeDiff, Nat.reduceAdd, Nat.reduceMul, Nat.reduceSub, i_lit, eq_self, and_true, true_and, and_self, not_true_eq_false, not_false_eq_true, or_true, true_or, or_false, false_or, false_and, and_false, reduceCtorEq, Nat.add_left_cancel_iff, Nat.add_zero, Nat.zero_add, md_all h, md_all h1, md_all h2, r2, r8, r10, hd, hkd, c'']
/-- YES, NO -/
theorem m_deliver_yn0 (hk : 5000 ≤ k) (h : St x B C W M) (hb : Bd W) {i : Nat} (hi : i < W 0 23) (hkd : W 20 (4 * i) = 2 ∨ W 20 (4 * i) = 3) (hto : W 20 (4 * i + 2) < 5) (ht : W 20 (4 * i + 3) < 200) (hd : W 2 (W 20 (4 * i + 2)) = 0) (hst : W 5 (W 20 (4 * i + 3)) ≠ 1) : ∃ M', fX5_deliver x k (B + 25) (i32 i) M = some (i32 0, M') ∧ St x B C (wTake (t0 W) i) M' := by
  have h0 := hb.1
  have f0 := s_fails0 (k := k) h 1
  obtain ⟨M1, e, h1⟩ := s_take (k := k) hk (show St x B C (t0 W) _ from su0 h 27 0) (i := i) hi h0.2.2.2.1
  have h5 : W 5 (W 20 (4 * i + 3)) < 5 := hb.r (by omega) _
  have r2 : wTake (t0 W) i 2 (W 20 (4 * i + 2)) = W 2 (W 20 (4 * i + 2)) := wTake_r _ _ (by omega) _
  have r5 : wTake (t0 W) i 5 (W 20 (4 * i + 3)) = W 5 (W 20 (4 * i + 3)) := wTake_r _ _ (by omega) _
  refine ⟨M1, ?_, h1⟩
  unfold fX5_deliver
  rcases hkd with hkd | hkd
  · repeat (first
      | (with_reducible refine e_l1 ?_)
      | ((with_reducible refine e_k ?_ (mkM h) ?_); focus rfl)
      | ((with_reducible refine e_p ?_ (mp1 h) ?_); focus rfl)
      | ((with_reducible refine e_p ?_ (mp2 h) ?_); focus rfl)
      | ((with_reducible refine e_p ?_ (mp3 h) ?_); focus rfl)
      | ((with_reducible refine e_p ?_ (mp4 h) ?_); focus rfl)
      | ((with_reducible refine e_p ?_ (mp5 h) ?_); focus rfl)
      | ((with_reducible refine e_p ?_ (mp6 h) ?_); focus rfl)
      | ((with_reducible refine e_p ?_ (mp7 h) ?_); focus rfl)
      | ((with_reducible refine e_p ?_ (mp8 h) ?_); focus rfl)
      | ((with_reducible refine e_p ?_ (mp9 h) ?_); focus rfl)
      | ((with_reducible refine e_p ?_ (mp10 h) ?_); focus rfl)
      | ((with_reducible refine e_p ?_ (mp11 h) ?_); focus rfl)
      | ((with_reducible refine e_p ?_ (mp12 h) ?_); focus rfl)
      | ((with_reducible refine e_p ?_ (mp13 h) ?_); focus rfl)
      | ((with_reducible refine e_p ?_ (mp14 h) ?_); focus rfl)
      | ((with_reducible refine e_p ?_ (mp15 h) ?_); focus rfl)
      | ((with_reducible refine e_p ?_ (mp16 h) ?_); focus rfl)
      | ((with_reducible refine e_p ?_ (mp17 h) ?_); focus rfl)
      | ((with_reducible refine e_p ?_ (mp18 h) ?_); focus rfl)
      | ((with_reducible refine e_p ?_ (mp19 h) ?_); focus rfl)
      | ((with_reducible refine e_p ?_ (mp20 h) ?_); focus rfl)
      | ((with_reducible refine e_p ?_ (mp21 h) ?_); focus rfl)
      | ((with_reducible refine e_k ?_ (mkM h1) ?_); focus rfl)
      | ((with_reducible refine e_p ?_ (mp1 h1) ?_); focus rfl)
      | ((with_reducible refine e_p ?_ (mp2 h1) ?_); focus rfl)
      | ((with_reducible refine e_p ?_ (mp3 h1) ?_); focus rfl)
      | ((with_reducible refine e_p ?_ (mp4 h1) ?_); focus rfl)
      | ((with_reducible refine e_p ?_ (mp5 h1) ?_); focus rfl)
      | ((with_reducible refine e_p ?_ (mp6 h1) ?_); focus rfl)
      | ((with_reducible refine e_p ?_ (mp7 h1) ?_); focus rfl)
      | ((with_reducible refine e_p ?_ (mp8 h1) ?_); focus rfl)
      | ((with_reducible refine e_p ?_ (mp9 h1) ?_); focus rfl)
      | ((with_reducible refine e_p ?_ (mp10 h1) ?_); focus rfl)
      | ((with_reducible refine e_p ?_ (mp11 h1) ?_); focus rfl)
      | ((with_reducible refine e_p ?_ (mp12 h1) ?_); focus rfl)
      | ((with_reducible refine e_p ?_ (mp13 h1) ?_); focus rfl)
      | ((with_reducible refine e_p ?_ (mp14 h1) ?_); focus rfl)
      | ((with_reducible refine e_p ?_ (mp15 h1) ?_); focus rfl)
      | ((with_reducible refine e_p ?_ (mp16 h1) ?_); focus rfl)
      | ((with_reducible refine e_p ?_ (mp17 h1) ?_); focus rfl)
      | ((with_reducible refine e_p ?_ (mp18 h1) ?_); focus rfl)
      | ((with_reducible refine e_p ?_ (mp19 h1) ?_); focus rfl)
      | ((with_reducible refine e_p ?_ (mp20 h1) ?_); focus rfl)
      | ((with_reducible refine e_p ?_ (mp21 h1) ?_); focus rfl)
      | ((with_reducible refine e_o2 ?_ f0 ?_); focus (first | with_reducible rfl | (simp (disch := omega) only [b_all, sV_all, ↓reduceIte, Nat.reduceEqDiff, Nat.reduceLT, Nat.reduceLeDiff, Nat.reduceAdd, Nat.reduceMul, Nat.reduceSub, i_lit, eq_self, and_true, true_and, and_self, not_true_eq_false, not_false_eq_true, or_true, true_or, or_false, false_or, false_and, and_false, reduceCtorEq, Nat.add_left_cancel_iff, Nat.add_zero, Nat.zero_add, md_all h, md_all h1, r2, r5, hd, hkd]; done)))
      | ((with_reducible refine e_o2 ?_ e ?_); focus (first | with_reducible rfl | (simp (disch := omega) only [b_all, sV_all, ↓reduceIte, Nat.reduceEqDiff, Nat.reduceLT, Nat.reduceLeDiff, Nat.reduceAdd, Nat.reduceMul, Nat.reduceSub, i_lit, eq_self, and_true, true_and, and_self, not_true_eq_false, not_false_eq_true, or_true, true_or, or_false, false_or, false_and, and_false, reduceCtorEq, Nat.add_left_cancel_iff, Nat.add_zero, Nat.zero_add, md_all h, md_all h1, r2, r5, hd, hkd]; done)))
      | ((with_reducible refine e_ip ?_ ?_); focus (simp (disch := omega) only [b_all, sV_all, ↓reduceIte, Nat.reduceEqDiff, Nat.reduceLT, Nat.reduceLeDiff, Nat.reduceAdd, Nat.reduceMul, Nat.reduceSub, i_lit, eq_self, and_true, true_and, and_self, not_true_eq_false, not_false_eq_true, or_true, true_or, or_false, false_or, false_and, and_false, reduceCtorEq, Nat.add_left_cancel_iff, Nat.add_zero, Nat.zero_add, md_all h, md_all h1, r2, r5, hd, hkd]; done))
      | ((with_reducible refine e_in ?_ ?_); focus (simp (disch := omega) only [b_all, sV_all, ↓reduceIte, Nat.reduceEqDiff, Nat.reduceLT, Nat.reduceLeDiff, Nat.reduceAdd, Nat.reduceMul, Nat.reduceSub, i_lit, eq_self, and_true, true_and, and_self, not_true_eq_false, not_false_eq_true, or_true, true_or, or_false, false_or, false_and, and_false, reduceCtorEq, Nat.add_left_cancel_iff, Nat.add_zero, Nat.zero_add, md_all h, md_all h1, r2, r5, hd, hkd]; done))
      | unfold fX5_deliver_18
      | unfold fX5_deliver_179
      | fail)
    first | with_reducible rfl | simp (disch := omega) only [b_all, sV_all, ↓reduceIte, Nat.reduceEqDiff, Nat.reduceLT, Nat.reduceLeDiff, Nat.reduceAdd, Nat.reduceMul, Nat.reduceSub, i_lit, eq_self, and_true, true_and, and_self, not_true_eq_false, not_false_eq_true, or_true, true_or, or_false, false_or, false_and, and_false, reduceCtorEq, Nat.add_left_cancel_iff, Nat.add_zero, Nat.zero_add, md_all h, md_all h1, r2, r5, hd, hkd]
  · repeat (first
      | (with_reducible refine e_l1 ?_)
      | ((with_reducible refine e_k ?_ (mkM h) ?_); focus rfl)
      | ((with_reducible refine e_p ?_ (mp1 h) ?_); focus rfl)
      | ((with_reducible refine e_p ?_ (mp2 h) ?_); focus rfl)
      | ((with_reducible refine e_p ?_ (mp3 h) ?_); focus rfl)
      | ((with_reducible refine e_p ?_ (mp4 h) ?_); focus rfl)
      | ((with_reducible refine e_p ?_ (mp5 h) ?_); focus rfl)
      | ((with_reducible refine e_p ?_ (mp6 h) ?_); focus rfl)
      | ((with_reducible refine e_p ?_ (mp7 h) ?_); focus rfl)
      | ((with_reducible refine e_p ?_ (mp8 h) ?_); focus rfl)
      | ((with_reducible refine e_p ?_ (mp9 h) ?_); focus rfl)
      | ((with_reducible refine e_p ?_ (mp10 h) ?_); focus rfl)
      | ((with_reducible refine e_p ?_ (mp11 h) ?_); focus rfl)
      | ((with_reducible refine e_p ?_ (mp12 h) ?_); focus rfl)
      | ((with_reducible refine e_p ?_ (mp13 h) ?_); focus rfl)
      | ((with_reducible refine e_p ?_ (mp14 h) ?_); focus rfl)
      | ((with_reducible refine e_p ?_ (mp15 h) ?_); focus rfl)
      | ((with_reducible refine e_p ?_ (mp16 h) ?_); focus rfl)
      | ((with_reducible refine e_p ?_ (mp17 h) ?_); focus rfl)
      | ((with_reducible refine e_p ?_ (mp18 h) ?_); focus rfl)
      | ((with_reducible refine e_p ?_ (mp19 h) ?_); focus rfl)
      | ((with_reducible refine e_p ?_ (mp20 h) ?_); focus rfl)
      | ((with_reducible refine e_p ?_ (mp21 h) ?_); focus rfl)
      | ((with_reducible refine e_k ?_ (mkM h1) ?_); focus rfl)
      | ((with_reducible refine e_p ?_ (mp1 h1) ?_); focus rfl)
      | ((with_reducible refine e_p ?_ (mp2 h1) ?_); focus rfl)
      | ((with_reducible refine e_p ?_ (mp3 h1) ?_); focus rfl)
      | ((with_reducible refine e_p ?_ (mp4 h1) ?_); focus rfl)
      | ((with_reducible refine e_p ?_ (mp5 h1) ?_); focus rfl)
      | ((with_reducible refine e_p ?_ (mp6 h1) ?_); focus rfl)
      | ((with_reducible refine e_p ?_ (mp7 h1) ?_); focus rfl)
      | ((with_reducible refine e_p ?_ (mp8 h1) ?_); focus rfl)
      | ((with_reducible refine e_p ?_ (mp9 h1) ?_); focus rfl)
      | ((with_reducible refine e_p ?_ (mp10 h1) ?_); focus rfl)
      | ((with_reducible refine e_p ?_ (mp11 h1) ?_); focus rfl)
      | ((with_reducible refine e_p ?_ (mp12 h1) ?_); focus rfl)
      | ((with_reducible refine e_p ?_ (mp13 h1) ?_); focus rfl)
      | ((with_reducible refine e_p ?_ (mp14 h1) ?_); focus rfl)
      | ((with_reducible refine e_p ?_ (mp15 h1) ?_); focus rfl)
      | ((with_reducible refine e_p ?_ (mp16 h1) ?_); focus rfl)
      | ((with_reducible refine e_p ?_ (mp17 h1) ?_); focus rfl)
      | ((with_reducible refine e_p ?_ (mp18 h1) ?_); focus rfl)
      | ((with_reducible refine e_p ?_ (mp19 h1) ?_); focus rfl)
      | ((with_reducible refine e_p ?_ (mp20 h1) ?_); focus rfl)
      | ((with_reducible refine e_p ?_ (mp21 h1) ?_); focus rfl)
      | ((with_reducible refine e_o2 ?_ f0 ?_); focus (first | with_reducible rfl | (simp (disch := omega) only [b_all, sV_all, ↓reduceIte, Nat.reduceEqDiff, Nat.reduceLT, Nat.reduceLeDiff, Nat.reduceAdd, Nat.reduceMul, Nat.reduceSub, i_lit, eq_self, and_true, true_and, and_self, not_true_eq_false, not_false_eq_true, or_true, true_or, or_false, false_or, false_and, and_false, reduceCtorEq, Nat.add_left_cancel_iff, Nat.add_zero, Nat.zero_add, md_all h, md_all h1, r2, r5, hd, hkd]; done)))
      | ((with_reducible refine e_o2 ?_ e ?_); focus (first | with_reducible rfl | (simp (disch := omega) only [b_all, sV_all, ↓reduceIte, Nat.reduceEqDiff, Nat.reduceLT, Nat.reduceLeDiff, Nat.reduceAdd, Nat.reduceMul, Nat.reduceSub, i_lit, eq_self, and_true, true_and, and_self, not_true_eq_false, not_false_eq_true, or_true, true_or, or_false, false_or, false_and, and_false, reduceCtorEq, Nat.add_left_cancel_iff, Nat.add_zero, Nat.zero_add, md_all h, md_all h1, r2, r5, hd, hkd]; done)))
      | ((with_reducible refine e_ip ?_ ?_); focus (simp (disch := omega) only [b_all, sV_all, ↓reduceIte, Nat.reduceEqDiff, Nat.reduceLT, Nat.reduceLeDiff, Nat.reduceAdd, Nat.reduceMul, Nat.reduceSub, i_lit, eq_self, and_true, true_and, and_self, not_true_eq_false, not_false_eq_true, or_true, true_or, or_false, false_or, false_and, and_false, reduceCtorEq, Nat.add_left_cancel_iff, Nat.add_zero, Nat.zero_add, md_all h, md_all h1, r2, r5, hd, hkd]; done))
      | ((with_reducible refine e_in ?_ ?_); focus (simp (disch := omega) only [b_all, sV_all, ↓reduceIte, Nat.reduceEqDiff, Nat.reduceLT, Nat.reduceLeDiff, Nat.reduceAdd, Nat.reduceMul, Nat.reduceSub, i_lit, eq_self, and_true, true_and, and_self, not_true_eq_false, not_false_eq_true, or_true, true_or, or_false, false_or, false_and, and_false, reduceCtorEq, Nat.add_left_cancel_iff, Nat.add_zero, Nat.zero_add, md_all h, md_all h1, r2, r5, hd, hkd]; done))
      | unfold fX5_deliver_18
      | unfold fX5_deliver_179
      | fail)
    first | with_reducible rfl | simp (disch := omega) only [b_all, sV_all, ↓reduceIte, Nat.reduceEqDiff, Nat.reduceLT, Nat.reduceLeDiff, Nat.reduceAdd, Nat.reduceMul, Nat.reduceSub, i_lit, eq_self, and_true, true_and, and_self, not_true_eq_false, not_false_eq_true, or_true, true_or, or_false, false_or, false_and, and_false, reduceCtorEq, Nat.add_left_cancel_iff, Nat.add_zero, Nat.zero_add, md_all h, md_all h1, r2, r5, hd, hkd]
theorem m_deliver_no (hk : 5000 ≤ k) (h : St x B C W M) (hb : Bd W) {i : Nat} (hi : i < W 0 23) (hkd : W 20 (4 * i) = 3) (hto : W 20 (4 * i + 2) < 5) (ht : W 20 (4 * i + 3) < 200) (hd : W 2 (W 20 (4 * i + 2)) = 0) (hst : W 5 (W 20 (4 * i + 3)) = 1) : ∃ M', fX5_deliver x k (B + 25) (i32 i) M = some (i32 0, M') ∧ St x B C (wFrees (U (wTake (t0 W) i) 5 (W 20 (4 * i + 3)) 3) (W 20 (4 * i + 3))) M' := by
  have h0 := hb.1
  have f0 := s_fails0 (k := k) h 1
  obtain ⟨M1, e, h1⟩ := s_take (k := k) hk (show St x B C (t0 W) _ from su0 h 27 0) (i := i) hi h0.2.2.2.1
  have hb1 : Bd (wTake (t0 W) i) := bd_take hb.t0 i
  have r2 : wTake (t0 W) i 2 (W 20 (4 * i + 2)) = W 2 (W 20 (4 * i + 2)) := wTake_r _ _ (by omega) _
  have r5 : wTake (t0 W) i 5 (W 20 (4 * i + 3)) = W 5 (W 20 (4 * i + 3)) := wTake_r _ _ (by omega) _
  obtain ⟨M2, e2, h2⟩ := s_frees (k := k) hk (su5 h1 (W 20 (4 * i + 3)) 3) (hb1.u (by omega) _ (by decide)) ht
  refine ⟨M2, ?_, h2⟩
  unfold fX5_deliver
  repeat (first
    | (with_reducible refine e_l1 ?_)
    | ((with_reducible refine e_k ?_ (mkM h) ?_); focus rfl)
    | ((with_reducible refine e_p ?_ (mp1 h) ?_); focus rfl)
    | ((with_reducible refine e_p ?_ (mp2 h) ?_); focus rfl)
    | ((with_reducible refine e_p ?_ (mp3 h) ?_); focus rfl)
    | ((with_reducible refine e_p ?_ (mp4 h) ?_); focus rfl)
    | ((with_reducible refine e_p ?_ (mp5 h) ?_); focus rfl)
    | ((with_reducible refine e_p ?_ (mp6 h) ?_); focus rfl)
    | ((with_reducible refine e_p ?_ (mp7 h) ?_); focus rfl)
    | ((with_reducible refine e_p ?_ (mp8 h) ?_); focus rfl)
    | ((with_reducible refine e_p ?_ (mp9 h) ?_); focus rfl)
    | ((with_reducible refine e_p ?_ (mp10 h) ?_); focus rfl)
    | ((with_reducible refine e_p ?_ (mp11 h) ?_); focus rfl)
    | ((with_reducible refine e_p ?_ (mp12 h) ?_); focus rfl)
    | ((with_reducible refine e_p ?_ (mp13 h) ?_); focus rfl)
    | ((with_reducible refine e_p ?_ (mp14 h) ?_); focus rfl)
    | ((with_reducible refine e_p ?_ (mp15 h) ?_); focus rfl)
    | ((with_reducible refine e_p ?_ (mp16 h) ?_); focus rfl)
    | ((with_reducible refine e_p ?_ (mp17 h) ?_); focus rfl)
    | ((with_reducible refine e_p ?_ (mp18 h) ?_); focus rfl)
    | ((with_reducible refine e_p ?_ (mp19 h) ?_); focus rfl)
    | ((with_reducible refine e_p ?_ (mp20 h) ?_); focus rfl)
    | ((with_reducible refine e_p ?_ (mp21 h) ?_); focus rfl)
    | ((with_reducible refine e_k ?_ (mkM h1) ?_); focus rfl)
    | ((with_reducible refine e_p ?_ (mp1 h1) ?_); focus rfl)
    | ((with_reducible refine e_p ?_ (mp2 h1) ?_); focus rfl)
    | ((with_reducible refine e_p ?_ (mp3 h1) ?_); focus rfl)
    | ((with_reducible refine e_p ?_ (mp4 h1) ?_); focus rfl)
    | ((with_reducible refine e_p ?_ (mp5 h1) ?_); focus rfl)
    | ((with_reducible refine e_p ?_ (mp6 h1) ?_); focus rfl)
    | ((with_reducible refine e_p ?_ (mp7 h1) ?_); focus rfl)
    | ((with_reducible refine e_p ?_ (mp8 h1) ?_); focus rfl)
    | ((with_reducible refine e_p ?_ (mp9 h1) ?_); focus rfl)
    | ((with_reducible refine e_p ?_ (mp10 h1) ?_); focus rfl)
    | ((with_reducible refine e_p ?_ (mp11 h1) ?_); focus rfl)
    | ((with_reducible refine e_p ?_ (mp12 h1) ?_); focus rfl)
    | ((with_reducible refine e_p ?_ (mp13 h1) ?_); focus rfl)
    | ((with_reducible refine e_p ?_ (mp14 h1) ?_); focus rfl)
    | ((with_reducible refine e_p ?_ (mp15 h1) ?_); focus rfl)
    | ((with_reducible refine e_p ?_ (mp16 h1) ?_); focus rfl)
    | ((with_reducible refine e_p ?_ (mp17 h1) ?_); focus rfl)
    | ((with_reducible refine e_p ?_ (mp18 h1) ?_); focus rfl)
    | ((with_reducible refine e_p ?_ (mp19 h1) ?_); focus rfl)
    | ((with_reducible refine e_p ?_ (mp20 h1) ?_); focus rfl)
    | ((with_reducible refine e_p ?_ (mp21 h1) ?_); focus rfl)
    | ((with_reducible refine e_o2 ?_ f0 ?_); focus (first | with_reducible rfl | (simp (disch := omega) only [b_all, sV_all, ↓reduceIte, Nat.reduceEqDiff, Nat.reduceLT, Nat.reduceLeDiff, Nat.reduceAdd, Nat.reduceMul, Nat.reduceSub, i_lit, eq_self, and_true, true_and, and_self, not_true_eq_false, not_false_eq_true, or_true, true_or, or_false, false_or, false_and, and_false, reduceCtorEq, Nat.add_left_cancel_iff, Nat.add_zero, Nat.zero_add, md_all h, md_all h1, r2, r5, hd, hkd, hst]; done)))
    | ((with_reducible refine e_o2 ?_ e ?_); focus (first | with_reducible rfl | (simp (disch := omega) only [b_all, sV_all, ↓reduceIte, Nat.reduceEqDiff, Nat.reduceLT, Nat.reduceLeDiff, Nat.reduceAdd, Nat.reduceMul, Nat.reduceSub, i_lit, eq_self, and_true, true_and, and_self, not_true_eq_false, not_false_eq_true, or_true, true_or, or_false, false_or, false_and, and_false, reduceCtorEq, Nat.add_left_cancel_iff, Nat.add_zero, Nat.zero_add, md_all h, md_all h1, r2, r5, hd, hkd, hst]; done)))
    | ((with_reducible refine e_o2 ?_ e2 ?_); focus (first | with_reducible rfl | (simp (disch := omega) only [b_all, sV_all, ↓reduceIte, Nat.reduceEqDiff, Nat.reduceLT, Nat.reduceLeDiff, Nat.reduceAdd, Nat.reduceMul, Nat.reduceSub, i_lit, eq_self, and_true, true_and, and_self, not_true_eq_false, not_false_eq_true, or_true, true_or, or_false, false_or, false_and, and_false, reduceCtorEq, Nat.add_left_cancel_iff, Nat.add_zero, Nat.zero_add, md_all h, md_all h1, r2, r5, hd, hkd, hst]; done)))
    | ((with_reducible refine e_ip ?_ ?_); focus (simp (disch := omega) only [b_all, sV_all, ↓reduceIte, Nat.reduceEqDiff, Nat.reduceLT, Nat.reduceLeDiff, Nat.reduceAdd, Nat.reduceMul, Nat.reduceSub, i_lit, eq_self, and_true, true_and, and_self, not_true_eq_false, not_false_eq_true, or_true, true_or, or_false, false_or, false_and, and_false, reduceCtorEq, Nat.add_left_cancel_iff, Nat.add_zero, Nat.zero_add, md_all h, md_all h1, r2, r5, hd, hkd, hst]; done))
    | ((with_reducible refine e_in ?_ ?_); focus (simp (disch := omega) only [b_all, sV_all, ↓reduceIte, Nat.reduceEqDiff, Nat.reduceLT, Nat.reduceLeDiff, Nat.reduceAdd, Nat.reduceMul, Nat.reduceSub, i_lit, eq_self, and_true, true_and, and_self, not_true_eq_false, not_false_eq_true, or_true, true_or, or_false, false_or, false_and, and_false, reduceCtorEq, Nat.add_left_cancel_iff, Nat.add_zero, Nat.zero_add, md_all h, md_all h1, r2, r5, hd, hkd, hst]; done))
    | unfold fX5_deliver_18
    | unfold fX5_deliver_179
    | fail)
  first | with_reducible rfl | simp (disch := omega) only [b_all, sV_all, ↓reduceIte, Nat.reduceEqDiff, Nat.reduceLT, Nat.reduceLeDiff, Nat.reduceAdd, Nat.reduceMul, Nat.reduceSub, i_lit, eq_self, and_true, true_and, and_self, not_true_eq_false, not_false_eq_true, or_true, true_or, or_false, false_or, false_and, and_false, reduceCtorEq, Nat.add_left_cancel_iff, Nat.add_zero, Nat.zero_add, md_all h, md_all h1, r2, r5, hd, hkd, hst]
theorem m_deliver_yes (hk : 5000 ≤ k) (h : St x B C W M) (hb : Bd W) {i : Nat} (hi : i < W 0 23) (hkd : W 20 (4 * i) = 2) (hfr : W 20 (4 * i + 1) < 5) (hto : W 20 (4 * i + 2) < 5) (ht : W 20 (4 * i + 3) < 200) (hd : W 2 (W 20 (4 * i + 2)) = 0) (hst : W 5 (W 20 (4 * i + 3)) = 1) (hv1 : ∀ j, W 1 j + 202 < 1073741824) (hv2 : W 0 4 + 202 < 1073741824) :
    (¬ allSaid (U (wTake (t0 W) i) 12 (5 * W 20 (4 * i + 3) + W 20 (4 * i + 1)) 1) (W 20 (4 * i + 3)) → ∃ M', fX5_deliver x k (B + 25) (i32 i) M = some (i32 0, M') ∧ St x B C (U (wTake (t0 W) i) 12 (5 * W 20 (4 * i + 3) + W 20 (4 * i + 1)) 1) M') ∧
    (allSaid (U (wTake (t0 W) i) 12 (5 * W 20 (4 * i + 3) + W 20 (4 * i + 1)) 1) (W 20 (4 * i + 3)) → ∃ M', fX5_deliver x k (B + 25) (i32 i) M = some (i32 (1 + (stl (W 20 (4 * i + 2)) (W 0 5) (wCommits (U (wTake (t0 W) i) 12 (5 * W 20 (4 * i + 3) + W 20 (4 * i + 1)) 1) (W 20 (4 * i + 3))) 0).2), M') ∧ St x B C (stl (W 20 (4 * i + 2)) (W 0 5) (wCommits (U (wTake (t0 W) i) 12 (5 * W 20 (4 * i + 3) + W 20 (4 * i + 1)) 1) (W 20 (4 * i + 3))) 0).1 M') := by
  have h0 := hb.1
  have f0 := s_fails0 (k := k) h 1
  obtain ⟨M1, e, h1⟩ := s_take (k := k) hk (show St x B C (t0 W) _ from su0 h 27 0) (i := i) hi h0.2.2.2.1
  have hb1 : Bd (wTake (t0 W) i) := bd_take hb.t0 i
  have r2 : wTake (t0 W) i 2 (W 20 (4 * i + 2)) = W 2 (W 20 (4 * i + 2)) := wTake_r _ _ (by omega) _
  have r5 : wTake (t0 W) i 5 (W 20 (4 * i + 3)) = W 5 (W 20 (4 * i + 3)) := wTake_r _ _ (by omega) _
  have h2 := su12 h1 (5 * W 20 (4 * i + 3) + W 20 (4 * i + 1)) 1
  have hb2 := hb1.u (i := 12) (by omega) (5 * W 20 (4 * i + 3) + W 20 (4 * i + 1)) (v := 1) (by decide)
  have ea := s_allSaid (k := k) hk h2 hb2 ht
  have q1 : ∀ j, U (wTake (t0 W) i) 12 (5 * W 20 (4 * i + 3) + W 20 (4 * i + 1)) 1 1 j = W 1 j := fun j => by rw [U_r _ (by omega), wTake_r _ _ (by omega)]; rfl
  have q04 : U (wTake (t0 W) i) 12 (5 * W 20 (4 * i + 3) + W 20 (4 * i + 1)) 1 0 4 = W 0 4 := by rw [U_r _ (by omega), wTake_0 _ _ (by omega)]; rfl
  have q05 : U (wTake (t0 W) i) 12 (5 * W 20 (4 * i + 3) + W 20 (4 * i + 1)) 1 0 5 = W 0 5 := by rw [U_r _ (by omega), wTake_0 _ _ (by omega)]; rfl
  refine ⟨fun c => ?_, fun c => ?_⟩
  · refine ⟨_, ?_, h2⟩
    unfold fX5_deliver
    repeat (first
      | (with_reducible refine e_l1 ?_)
      | ((with_reducible refine e_k ?_ (mkM h) ?_); focus rfl)
      | ((with_reducible refine e_p ?_ (mp1 h) ?_); focus rfl)
      | ((with_reducible refine e_p ?_ (mp2 h) ?_); focus rfl)
      | ((with_reducible refine e_p ?_ (mp3 h) ?_); focus rfl)
      | ((with_reducible refine e_p ?_ (mp4 h) ?_); focus rfl)
      | ((with_reducible refine e_p ?_ (mp5 h) ?_); focus rfl)
      | ((with_reducible refine e_p ?_ (mp6 h) ?_); focus rfl)
      | ((with_reducible refine e_p ?_ (mp7 h) ?_); focus rfl)
      | ((with_reducible refine e_p ?_ (mp8 h) ?_); focus rfl)
      | ((with_reducible refine e_p ?_ (mp9 h) ?_); focus rfl)
      | ((with_reducible refine e_p ?_ (mp10 h) ?_); focus rfl)
      | ((with_reducible refine e_p ?_ (mp11 h) ?_); focus rfl)
      | ((with_reducible refine e_p ?_ (mp12 h) ?_); focus rfl)
      | ((with_reducible refine e_p ?_ (mp13 h) ?_); focus rfl)
      | ((with_reducible refine e_p ?_ (mp14 h) ?_); focus rfl)
      | ((with_reducible refine e_p ?_ (mp15 h) ?_); focus rfl)
      | ((with_reducible refine e_p ?_ (mp16 h) ?_); focus rfl)
      | ((with_reducible refine e_p ?_ (mp17 h) ?_); focus rfl)
      | ((with_reducible refine e_p ?_ (mp18 h) ?_); focus rfl)
      | ((with_reducible refine e_p ?_ (mp19 h) ?_); focus rfl)
      | ((with_reducible refine e_p ?_ (mp20 h) ?_); focus rfl)
      | ((with_reducible refine e_p ?_ (mp21 h) ?_); focus rfl)
      | ((with_reducible refine e_k ?_ (mkM h1) ?_); focus rfl)
      | ((with_reducible refine e_p ?_ (mp1 h1) ?_); focus rfl)
      | ((with_reducible refine e_p ?_ (mp2 h1) ?_); focus rfl)
      | ((with_reducible refine e_p ?_ (mp3 h1) ?_); focus rfl)
      | ((with_reducible refine e_p ?_ (mp4 h1) ?_); focus rfl)
      | ((with_reducible refine e_p ?_ (mp5 h1) ?_); focus rfl)
      | ((with_reducible refine e_p ?_ (mp6 h1) ?_); focus rfl)
      | ((with_reducible refine e_p ?_ (mp7 h1) ?_); focus rfl)
      | ((with_reducible refine e_p ?_ (mp8 h1) ?_); focus rfl)
      | ((with_reducible refine e_p ?_ (mp9 h1) ?_); focus rfl)
      | ((with_reducible refine e_p ?_ (mp10 h1) ?_); focus rfl)
      | ((with_reducible refine e_p ?_ (mp11 h1) ?_); focus rfl)
      | ((with_reducible refine e_p ?_ (mp12 h1) ?_); focus rfl)
      | ((with_reducible refine e_p ?_ (mp13 h1) ?_); focus rfl)
      | ((with_reducible refine e_p ?_ (mp14 h1) ?_); focus rfl)
      | ((with_reducible refine e_p ?_ (mp15 h1) ?_); focus rfl)
      | ((with_reducible refine e_p ?_ (mp16 h1) ?_); focus rfl)
      | ((with_reducible refine e_p ?_ (mp17 h1) ?_); focus rfl)
      | ((with_reducible refine e_p ?_ (mp18 h1) ?_); focus rfl)
      | ((with_reducible refine e_p ?_ (mp19 h1) ?_); focus rfl)
      | ((with_reducible refine e_p ?_ (mp20 h1) ?_); focus rfl)
      | ((with_reducible refine e_p ?_ (mp21 h1) ?_); focus rfl)
      | ((with_reducible refine e_o2 ?_ f0 ?_); focus (first | with_reducible rfl | (simp (disch := omega) only [b_all, sV_all, ↓reduceIte, Nat.reduceEqDiff, Nat.reduceLT, Nat.reduceLeDiff, Nat.reduceAdd, Nat.reduceMul, Nat.reduceSub, i_lit, eq_self, and_true, true_and, and_self, not_true_eq_false, not_false_eq_true, or_true, true_or, or_false, false_or, false_and, and_false, reduceCtorEq, Nat.add_left_cancel_iff, Nat.add_zero, Nat.zero_add, md_all h, md_all h1, r2, r5, hd, hkd, hst, c]; done)))
      | ((with_reducible refine e_o2 ?_ e ?_); focus (first | with_reducible rfl | (simp (disch := omega) only [b_all, sV_all, ↓reduceIte, Nat.reduceEqDiff, Nat.reduceLT, Nat.reduceLeDiff, Nat.reduceAdd, Nat.reduceMul, Nat.reduceSub, i_lit, eq_self, and_true, true_and, and_self, not_true_eq_false, not_false_eq_true, or_true, true_or, or_false, false_or, false_and, and_false, reduceCtorEq, Nat.add_left_cancel_iff, Nat.add_zero, Nat.zero_add, md_all h, md_all h1, r2, r5, hd, hkd, hst, c]; done)))
      | ((with_reducible refine e_o2 ?_ ea ?_); focus (first | with_reducible rfl | (simp (disch := omega) only [b_all, sV_all, ↓reduceIte, Nat.reduceEqDiff, Nat.reduceLT, Nat.reduceLeDiff, Nat.reduceAdd, Nat.reduceMul, Nat.reduceSub, i_lit, eq_self, and_true, true_and, and_self, not_true_eq_false, not_false_eq_true, or_true, true_or, or_false, false_or, false_and, and_false, reduceCtorEq, Nat.add_left_cancel_iff, Nat.add_zero, Nat.zero_add, md_all h, md_all h1, r2, r5, hd, hkd, hst, c]; done)))
      | ((with_reducible refine e_ip ?_ ?_); focus (simp (disch := omega) only [b_all, sV_all, ↓reduceIte, Nat.reduceEqDiff, Nat.reduceLT, Nat.reduceLeDiff, Nat.reduceAdd, Nat.reduceMul, Nat.reduceSub, i_lit, eq_self, and_true, true_and, and_self, not_true_eq_false, not_false_eq_true, or_true, true_or, or_false, false_or, false_and, and_false, reduceCtorEq, Nat.add_left_cancel_iff, Nat.add_zero, Nat.zero_add, md_all h, md_all h1, r2, r5, hd, hkd, hst, c]; done))
      | ((with_reducible refine e_in ?_ ?_); focus (simp (disch := omega) only [b_all, sV_all, ↓reduceIte, Nat.reduceEqDiff, Nat.reduceLT, Nat.reduceLeDiff, Nat.reduceAdd, Nat.reduceMul, Nat.reduceSub, i_lit, eq_self, and_true, true_and, and_self, not_true_eq_false, not_false_eq_true, or_true, true_or, or_false, false_or, false_and, and_false, reduceCtorEq, Nat.add_left_cancel_iff, Nat.add_zero, Nat.zero_add, md_all h, md_all h1, r2, r5, hd, hkd, hst, c]; done))
      | unfold fX5_deliver_18
      | unfold fX5_deliver_179
      | fail)
    first | with_reducible rfl | simp (disch := omega) only [b_all, sV_all, ↓reduceIte, Nat.reduceEqDiff, Nat.reduceLT, Nat.reduceLeDiff, Nat.reduceAdd, Nat.reduceMul, Nat.reduceSub, i_lit, eq_self, and_true, true_and, and_self, not_true_eq_false, not_false_eq_true, or_true, true_or, or_false, false_or, false_and, and_false, reduceCtorEq, Nat.add_left_cancel_iff, Nat.add_zero, Nat.zero_add, md_all h, md_all h1, r2, r5, hd, hkd, hst, c]
  · generalize hA : U (wTake (t0 W) i) 12 (5 * W 20 (4 * i + 3) + W 20 (4 * i + 1)) 1 = A at *
    have b1 := hv1 (5 * A 4 (W 20 (4 * i + 3)) + A 4 (W 20 (4 * i + 3)))
    obtain ⟨M3, e3, h3⟩ := s_commits (k := k) hk h2 hb2 ht (by rw [q1]; omega) (by rw [q04]; omega)
    have hc1 : wCommits A (W 20 (4 * i + 3)) 0 5 = W 0 5 := by
      unfold wCommits
      rw [tlF_k _ _ _ (by omega), wApp_0 _ _ _ (by omega)]
      unfold wCom1
      rw [U_r _ (by omega), U_r _ (by omega)]; exact q05
    have hc2 : ∀ j, wCommits A (W 20 (4 * i + 3)) 1 j ≤ W 1 j + 1 := by
      intro j
      unfold wCommits
      rw [tlF_r _ _ _ (by omega)]
      unfold wApp
      rw [unl_r _ _ _ (by omega), U_r _ (by omega), U_r _ (by omega), U_r _ (by omega)]
      have hz : ∀ j, wCom1 A (W 20 (4 * i + 3)) 1 j = W 1 j := fun j => by
        unfold wCom1
        rw [U_r _ (by omega), U_r _ (by omega)]; exact q1 j
      rw [hz]
      unfold U
      split
      · rename_i z; rw [z.2]; omega
      · rw [hz]; omega
    have hc3 : wCommits A (W 20 (4 * i + 3)) 0 4 = W 0 4 + 1 := by
      unfold wCommits
      rw [tlF_k _ _ _ (by omega)]
      unfold wApp
      rw [unl_r _ _ _ (by omega), U_r _ (by omega), U_r _ (by omega), U_s]
      unfold wCom1
      rw [U_r _ (by omega), U_r _ (by omega), q04]
    have hb3 : Bd (wCommits A (W 20 (4 * i + 3))) := by
      have w1 : wCom1 A (W 20 (4 * i + 3)) 1 (5 * A 4 (W 20 (4 * i + 3)) + wCom1 A (W 20 (4 * i + 3)) 4 (W 20 (4 * i + 3))) = A 1 (5 * A 4 (W 20 (4 * i + 3)) + A 4 (W 20 (4 * i + 3))) := by unfold wCom1; simp (disch := omega) only [U_r]
      have w2 : wCom1 A (W 20 (4 * i + 3)) 0 4 = A 0 4 := by unfold wCom1; simp (disch := omega) only [U_r]
      have w3 : Bd (wCom1 A (W 20 (4 * i + 3))) := (hb2.u (i := 5) (by omega) _ (by decide)).u (i := 6) (by omega) _ (show A 1 (5 * A 4 (W 20 (4 * i + 3)) + A 4 (W 20 (4 * i + 3))) + 1 < 1073741824 by rw [q1]; omega)
      exact bd_tlF (bd_app w3 (by rw [w1, q1]; omega) (by rw [w2, q04]; omega)) (hb2.r (by omega) _) ht _ hb2.1.2.1
    obtain ⟨M4, e4, h4⟩ := s_settles (k := k) hk h3 hb3 hto (fun j => by have := hc2 j; have := hv1 j; omega) (by omega)
    rw [hc1] at e4 h4
    refine ⟨M4, ?_, h4⟩
    unfold fX5_deliver
    repeat (first
      | (with_reducible refine e_l1 ?_)
      | ((with_reducible refine e_k ?_ (mkM h) ?_); focus rfl)
      | ((with_reducible refine e_p ?_ (mp1 h) ?_); focus rfl)
      | ((with_reducible refine e_p ?_ (mp2 h) ?_); focus rfl)
      | ((with_reducible refine e_p ?_ (mp3 h) ?_); focus rfl)
      | ((with_reducible refine e_p ?_ (mp4 h) ?_); focus rfl)
      | ((with_reducible refine e_p ?_ (mp5 h) ?_); focus rfl)
      | ((with_reducible refine e_p ?_ (mp6 h) ?_); focus rfl)
      | ((with_reducible refine e_p ?_ (mp7 h) ?_); focus rfl)
      | ((with_reducible refine e_p ?_ (mp8 h) ?_); focus rfl)
      | ((with_reducible refine e_p ?_ (mp9 h) ?_); focus rfl)
      | ((with_reducible refine e_p ?_ (mp10 h) ?_); focus rfl)
      | ((with_reducible refine e_p ?_ (mp11 h) ?_); focus rfl)
      | ((with_reducible refine e_p ?_ (mp12 h) ?_); focus rfl)
      | ((with_reducible refine e_p ?_ (mp13 h) ?_); focus rfl)
      | ((with_reducible refine e_p ?_ (mp14 h) ?_); focus rfl)
      | ((with_reducible refine e_p ?_ (mp15 h) ?_); focus rfl)
      | ((with_reducible refine e_p ?_ (mp16 h) ?_); focus rfl)
      | ((with_reducible refine e_p ?_ (mp17 h) ?_); focus rfl)
      | ((with_reducible refine e_p ?_ (mp18 h) ?_); focus rfl)
      | ((with_reducible refine e_p ?_ (mp19 h) ?_); focus rfl)
      | ((with_reducible refine e_p ?_ (mp20 h) ?_); focus rfl)
      | ((with_reducible refine e_p ?_ (mp21 h) ?_); focus rfl)
      | ((with_reducible refine e_k ?_ (mkM h1) ?_); focus rfl)
      | ((with_reducible refine e_p ?_ (mp1 h1) ?_); focus rfl)
      | ((with_reducible refine e_p ?_ (mp2 h1) ?_); focus rfl)
      | ((with_reducible refine e_p ?_ (mp3 h1) ?_); focus rfl)
      | ((with_reducible refine e_p ?_ (mp4 h1) ?_); focus rfl)
      | ((with_reducible refine e_p ?_ (mp5 h1) ?_); focus rfl)
      | ((with_reducible refine e_p ?_ (mp6 h1) ?_); focus rfl)
      | ((with_reducible refine e_p ?_ (mp7 h1) ?_); focus rfl)
      | ((with_reducible refine e_p ?_ (mp8 h1) ?_); focus rfl)
      | ((with_reducible refine e_p ?_ (mp9 h1) ?_); focus rfl)
      | ((with_reducible refine e_p ?_ (mp10 h1) ?_); focus rfl)
      | ((with_reducible refine e_p ?_ (mp11 h1) ?_); focus rfl)
      | ((with_reducible refine e_p ?_ (mp12 h1) ?_); focus rfl)
      | ((with_reducible refine e_p ?_ (mp13 h1) ?_); focus rfl)
      | ((with_reducible refine e_p ?_ (mp14 h1) ?_); focus rfl)
      | ((with_reducible refine e_p ?_ (mp15 h1) ?_); focus rfl)
      | ((with_reducible refine e_p ?_ (mp16 h1) ?_); focus rfl)
      | ((with_reducible refine e_p ?_ (mp17 h1) ?_); focus rfl)
      | ((with_reducible refine e_p ?_ (mp18 h1) ?_); focus rfl)
      | ((with_reducible refine e_p ?_ (mp19 h1) ?_); focus rfl)
      | ((with_reducible refine e_p ?_ (mp20 h1) ?_); focus rfl)
      | ((with_reducible refine e_p ?_ (mp21 h1) ?_); focus rfl)
      | ((with_reducible refine e_k ?_ (mkM h2) ?_); focus rfl)
      | ((with_reducible refine e_p ?_ (mp1 h2) ?_); focus rfl)
      | ((with_reducible refine e_p ?_ (mp2 h2) ?_); focus rfl)
      | ((with_reducible refine e_p ?_ (mp3 h2) ?_); focus rfl)
      | ((with_reducible refine e_p ?_ (mp4 h2) ?_); focus rfl)
      | ((with_reducible refine e_p ?_ (mp5 h2) ?_); focus rfl)
      | ((with_reducible refine e_p ?_ (mp6 h2) ?_); focus rfl)
      | ((with_reducible refine e_p ?_ (mp7 h2) ?_); focus rfl)
      | ((with_reducible refine e_p ?_ (mp8 h2) ?_); focus rfl)
      | ((with_reducible refine e_p ?_ (mp9 h2) ?_); focus rfl)
      | ((with_reducible refine e_p ?_ (mp10 h2) ?_); focus rfl)
      | ((with_reducible refine e_p ?_ (mp11 h2) ?_); focus rfl)
      | ((with_reducible refine e_p ?_ (mp12 h2) ?_); focus rfl)
      | ((with_reducible refine e_p ?_ (mp13 h2) ?_); focus rfl)
      | ((with_reducible refine e_p ?_ (mp14 h2) ?_); focus rfl)
      | ((with_reducible refine e_p ?_ (mp15 h2) ?_); focus rfl)
      | ((with_reducible refine e_p ?_ (mp16 h2) ?_); focus rfl)
      | ((with_reducible refine e_p ?_ (mp17 h2) ?_); focus rfl)
      | ((with_reducible refine e_p ?_ (mp18 h2) ?_); focus rfl)
      | ((with_reducible refine e_p ?_ (mp19 h2) ?_); focus rfl)
      | ((with_reducible refine e_p ?_ (mp20 h2) ?_); focus rfl)
      | ((with_reducible refine e_p ?_ (mp21 h2) ?_); focus rfl)
      | ((with_reducible refine e_k ?_ (mkM h3) ?_); focus rfl)
      | ((with_reducible refine e_p ?_ (mp1 h3) ?_); focus rfl)
      | ((with_reducible refine e_p ?_ (mp2 h3) ?_); focus rfl)
      | ((with_reducible refine e_p ?_ (mp3 h3) ?_); focus rfl)
      | ((with_reducible refine e_p ?_ (mp4 h3) ?_); focus rfl)
      | ((with_reducible refine e_p ?_ (mp5 h3) ?_); focus rfl)
      | ((with_reducible refine e_p ?_ (mp6 h3) ?_); focus rfl)
      | ((with_reducible refine e_p ?_ (mp7 h3) ?_); focus rfl)
      | ((with_reducible refine e_p ?_ (mp8 h3) ?_); focus rfl)
      | ((with_reducible refine e_p ?_ (mp9 h3) ?_); focus rfl)
      | ((with_reducible refine e_p ?_ (mp10 h3) ?_); focus rfl)
      | ((with_reducible refine e_p ?_ (mp11 h3) ?_); focus rfl)
      | ((with_reducible refine e_p ?_ (mp12 h3) ?_); focus rfl)
      | ((with_reducible refine e_p ?_ (mp13 h3) ?_); focus rfl)
      | ((with_reducible refine e_p ?_ (mp14 h3) ?_); focus rfl)
      | ((with_reducible refine e_p ?_ (mp15 h3) ?_); focus rfl)
      | ((with_reducible refine e_p ?_ (mp16 h3) ?_); focus rfl)
      | ((with_reducible refine e_p ?_ (mp17 h3) ?_); focus rfl)
      | ((with_reducible refine e_p ?_ (mp18 h3) ?_); focus rfl)
      | ((with_reducible refine e_p ?_ (mp19 h3) ?_); focus rfl)
      | ((with_reducible refine e_p ?_ (mp20 h3) ?_); focus rfl)
      | ((with_reducible refine e_p ?_ (mp21 h3) ?_); focus rfl)
      | ((with_reducible refine e_o2 ?_ f0 ?_); focus (first | with_reducible rfl | (simp (disch := omega) only [b_all, sV_all, ↓reduceIte, Nat.reduceEqDiff, Nat.reduceLT, Nat.reduceLeDiff, Nat.reduceAdd, Nat.reduceMul, Nat.reduceSub, i_lit, eq_self, and_true, true_and, and_self, not_true_eq_false, not_false_eq_true, or_true, true_or, or_false, false_or, false_and, and_false, reduceCtorEq, Nat.add_left_cancel_iff, Nat.add_zero, Nat.zero_add, md_all h, md_all h1, md_all h2, md_all h3, r2, r5, hd, hkd, hst, c]; done)))
      | ((with_reducible refine e_o2 ?_ e ?_); focus (first | with_reducible rfl | (simp (disch := omega) only [b_all, sV_all, ↓reduceIte, Nat.reduceEqDiff, Nat.reduceLT, Nat.reduceLeDiff, Nat.reduceAdd, Nat.reduceMul, Nat.reduceSub, i_lit, eq_self, and_true, true_and, and_self, not_true_eq_false, not_false_eq_true, or_true, true_or, or_false, false_or, false_and, and_false, reduceCtorEq, Nat.add_left_cancel_iff, Nat.add_zero, Nat.zero_add, md_all h, md_all h1, md_all h2, md_all h3, r2, r5, hd, hkd, hst, c]; done)))
      | ((with_reducible refine e_o2 ?_ ea ?_); focus (first | with_reducible rfl | (simp (disch := omega) only [b_all, sV_all, ↓reduceIte, Nat.reduceEqDiff, Nat.reduceLT, Nat.reduceLeDiff, Nat.reduceAdd, Nat.reduceMul, Nat.reduceSub, i_lit, eq_self, and_true, true_and, and_self, not_true_eq_false, not_false_eq_true, or_true, true_or, or_false, false_or, false_and, and_false, reduceCtorEq, Nat.add_left_cancel_iff, Nat.add_zero, Nat.zero_add, md_all h, md_all h1, md_all h2, md_all h3, r2, r5, hd, hkd, hst, c]; done)))
      | ((with_reducible refine e_o2 ?_ e3 ?_); focus (first | with_reducible rfl | (simp (disch := omega) only [b_all, sV_all, ↓reduceIte, Nat.reduceEqDiff, Nat.reduceLT, Nat.reduceLeDiff, Nat.reduceAdd, Nat.reduceMul, Nat.reduceSub, i_lit, eq_self, and_true, true_and, and_self, not_true_eq_false, not_false_eq_true, or_true, true_or, or_false, false_or, false_and, and_false, reduceCtorEq, Nat.add_left_cancel_iff, Nat.add_zero, Nat.zero_add, md_all h, md_all h1, md_all h2, md_all h3, r2, r5, hd, hkd, hst, c]; done)))
      | ((with_reducible refine e_o2 ?_ e4 ?_); focus (first | with_reducible rfl | (simp (disch := omega) only [b_all, sV_all, ↓reduceIte, Nat.reduceEqDiff, Nat.reduceLT, Nat.reduceLeDiff, Nat.reduceAdd, Nat.reduceMul, Nat.reduceSub, i_lit, eq_self, and_true, true_and, and_self, not_true_eq_false, not_false_eq_true, or_true, true_or, or_false, false_or, false_and, and_false, reduceCtorEq, Nat.add_left_cancel_iff, Nat.add_zero, Nat.zero_add, md_all h, md_all h1, md_all h2, md_all h3, r2, r5, hd, hkd, hst, c]; done)))
      | ((with_reducible refine e_ip ?_ ?_); focus (simp (disch := omega) only [b_all, sV_all, ↓reduceIte, Nat.reduceEqDiff, Nat.reduceLT, Nat.reduceLeDiff, Nat.reduceAdd, Nat.reduceMul, Nat.reduceSub, i_lit, eq_self, and_true, true_and, and_self, not_true_eq_false, not_false_eq_true, or_true, true_or, or_false, false_or, false_and, and_false, reduceCtorEq, Nat.add_left_cancel_iff, Nat.add_zero, Nat.zero_add, md_all h, md_all h1, md_all h2, md_all h3, r2, r5, hd, hkd, hst, c]; done))
      | ((with_reducible refine e_in ?_ ?_); focus (simp (disch := omega) only [b_all, sV_all, ↓reduceIte, Nat.reduceEqDiff, Nat.reduceLT, Nat.reduceLeDiff, Nat.reduceAdd, Nat.reduceMul, Nat.reduceSub, i_lit, eq_self, and_true, true_and, and_self, not_true_eq_false, not_false_eq_true, or_true, true_or, or_false, false_or, false_and, and_false, reduceCtorEq, Nat.add_left_cancel_iff, Nat.add_zero, Nat.zero_add, md_all h, md_all h1, md_all h2, md_all h3, r2, r5, hd, hkd, hst, c]; done))
      | unfold fX5_deliver_18
      | unfold fX5_deliver_179
      | fail)
    first | with_reducible rfl | simp (disch := omega) only [b_all, sV_all, ↓reduceIte, Nat.reduceEqDiff, Nat.reduceLT, Nat.reduceLeDiff, Nat.reduceAdd, Nat.reduceMul, Nat.reduceSub, i_lit, eq_self, and_true, true_and, and_self, not_true_eq_false, not_false_eq_true, or_true, true_or, or_false, false_or, false_and, and_false, reduceCtorEq, Nat.add_left_cancel_iff, Nat.add_zero, Nat.zero_add, md_all h, md_all h1, md_all h2, md_all h3, r2, r5, hd, hkd, hst, c]
theorem m_deliver_free (hk : 5000 ≤ k) (h : St x B C W M) (hb : Bd W) {i : Nat} (hi : i < W 0 23) (hkd : W 20 (4 * i) = 4) (hto : W 20 (4 * i + 2) < 5) (ht : W 20 (4 * i + 3) < 200) (hd : W 2 (W 20 (4 * i + 2)) = 0) : ∃ M', fX5_deliver x k (B + 25) (i32 i) M = some (i32 0, M') ∧ St x B C (unl (U (wTake (t0 W) i) 10 (5 * W 20 (4 * i + 3) + W 20 (4 * i + 2)) 1) (W 20 (4 * i + 3)) (W 20 (4 * i + 2)) 20) M' := by
  have h0 := hb.1
  have f0 := s_fails0 (k := k) h 1
  obtain ⟨M1, e, h1⟩ := s_take (k := k) hk (show St x B C (t0 W) _ from su0 h 27 0) (i := i) hi h0.2.2.2.1
  have hb1 : Bd (wTake (t0 W) i) := bd_take hb.t0 i
  have r2 : wTake (t0 W) i 2 (W 20 (4 * i + 2)) = W 2 (W 20 (4 * i + 2)) := wTake_r _ _ (by omega) _
  obtain ⟨M2, e2, h2⟩ := s_unlock (k := k) hk (su10 h1 (5 * W 20 (4 * i + 3) + W 20 (4 * i + 2)) 1) (fun j => by rw [U_r _ (by omega)]; exact hb1.r (by omega) j) ht hto
  refine ⟨M2, ?_, h2⟩
  unfold fX5_deliver
  repeat (first
    | (with_reducible refine e_l1 ?_)
    | ((with_reducible refine e_k ?_ (mkM h) ?_); focus rfl)
    | ((with_reducible refine e_p ?_ (mp1 h) ?_); focus rfl)
    | ((with_reducible refine e_p ?_ (mp2 h) ?_); focus rfl)
    | ((with_reducible refine e_p ?_ (mp3 h) ?_); focus rfl)
    | ((with_reducible refine e_p ?_ (mp4 h) ?_); focus rfl)
    | ((with_reducible refine e_p ?_ (mp5 h) ?_); focus rfl)
    | ((with_reducible refine e_p ?_ (mp6 h) ?_); focus rfl)
    | ((with_reducible refine e_p ?_ (mp7 h) ?_); focus rfl)
    | ((with_reducible refine e_p ?_ (mp8 h) ?_); focus rfl)
    | ((with_reducible refine e_p ?_ (mp9 h) ?_); focus rfl)
    | ((with_reducible refine e_p ?_ (mp10 h) ?_); focus rfl)
    | ((with_reducible refine e_p ?_ (mp11 h) ?_); focus rfl)
    | ((with_reducible refine e_p ?_ (mp12 h) ?_); focus rfl)
    | ((with_reducible refine e_p ?_ (mp13 h) ?_); focus rfl)
    | ((with_reducible refine e_p ?_ (mp14 h) ?_); focus rfl)
    | ((with_reducible refine e_p ?_ (mp15 h) ?_); focus rfl)
    | ((with_reducible refine e_p ?_ (mp16 h) ?_); focus rfl)
    | ((with_reducible refine e_p ?_ (mp17 h) ?_); focus rfl)
    | ((with_reducible refine e_p ?_ (mp18 h) ?_); focus rfl)
    | ((with_reducible refine e_p ?_ (mp19 h) ?_); focus rfl)
    | ((with_reducible refine e_p ?_ (mp20 h) ?_); focus rfl)
    | ((with_reducible refine e_p ?_ (mp21 h) ?_); focus rfl)
    | ((with_reducible refine e_k ?_ (mkM h1) ?_); focus rfl)
    | ((with_reducible refine e_p ?_ (mp1 h1) ?_); focus rfl)
    | ((with_reducible refine e_p ?_ (mp2 h1) ?_); focus rfl)
    | ((with_reducible refine e_p ?_ (mp3 h1) ?_); focus rfl)
    | ((with_reducible refine e_p ?_ (mp4 h1) ?_); focus rfl)
    | ((with_reducible refine e_p ?_ (mp5 h1) ?_); focus rfl)
    | ((with_reducible refine e_p ?_ (mp6 h1) ?_); focus rfl)
    | ((with_reducible refine e_p ?_ (mp7 h1) ?_); focus rfl)
    | ((with_reducible refine e_p ?_ (mp8 h1) ?_); focus rfl)
    | ((with_reducible refine e_p ?_ (mp9 h1) ?_); focus rfl)
    | ((with_reducible refine e_p ?_ (mp10 h1) ?_); focus rfl)
    | ((with_reducible refine e_p ?_ (mp11 h1) ?_); focus rfl)
    | ((with_reducible refine e_p ?_ (mp12 h1) ?_); focus rfl)
    | ((with_reducible refine e_p ?_ (mp13 h1) ?_); focus rfl)
    | ((with_reducible refine e_p ?_ (mp14 h1) ?_); focus rfl)
    | ((with_reducible refine e_p ?_ (mp15 h1) ?_); focus rfl)
    | ((with_reducible refine e_p ?_ (mp16 h1) ?_); focus rfl)
    | ((with_reducible refine e_p ?_ (mp17 h1) ?_); focus rfl)
    | ((with_reducible refine e_p ?_ (mp18 h1) ?_); focus rfl)
    | ((with_reducible refine e_p ?_ (mp19 h1) ?_); focus rfl)
    | ((with_reducible refine e_p ?_ (mp20 h1) ?_); focus rfl)
    | ((with_reducible refine e_p ?_ (mp21 h1) ?_); focus rfl)
    | ((with_reducible refine e_o2 ?_ f0 ?_); focus (first | with_reducible rfl | (simp (disch := omega) only [b_all, sV_all, ↓reduceIte, Nat.reduceEqDiff, Nat.reduceLT, Nat.reduceLeDiff, Nat.reduceAdd, Nat.reduceMul, Nat.reduceSub, i_lit, eq_self, and_true, true_and, and_self, not_true_eq_false, not_false_eq_true, or_true, true_or, or_false, false_or, false_and, and_false, reduceCtorEq, Nat.add_left_cancel_iff, Nat.add_zero, Nat.zero_add, md_all h, md_all h1, r2, hd, hkd]; done)))
    | ((with_reducible refine e_o2 ?_ e ?_); focus (first | with_reducible rfl | (simp (disch := omega) only [b_all, sV_all, ↓reduceIte, Nat.reduceEqDiff, Nat.reduceLT, Nat.reduceLeDiff, Nat.reduceAdd, Nat.reduceMul, Nat.reduceSub, i_lit, eq_self, and_true, true_and, and_self, not_true_eq_false, not_false_eq_true, or_true, true_or, or_false, false_or, false_and, and_false, reduceCtorEq, Nat.add_left_cancel_iff, Nat.add_zero, Nat.zero_add, md_all h, md_all h1, r2, hd, hkd]; done)))
    | ((with_reducible refine e_o2 ?_ e2 ?_); focus (first | with_reducible rfl | (simp (disch := omega) only [b_all, sV_all, ↓reduceIte, Nat.reduceEqDiff, Nat.reduceLT, Nat.reduceLeDiff, Nat.reduceAdd, Nat.reduceMul, Nat.reduceSub, i_lit, eq_self, and_true, true_and, and_self, not_true_eq_false, not_false_eq_true, or_true, true_or, or_false, false_or, false_and, and_false, reduceCtorEq, Nat.add_left_cancel_iff, Nat.add_zero, Nat.zero_add, md_all h, md_all h1, r2, hd, hkd]; done)))
    | ((with_reducible refine e_ip ?_ ?_); focus (simp (disch := omega) only [b_all, sV_all, ↓reduceIte, Nat.reduceEqDiff, Nat.reduceLT, Nat.reduceLeDiff, Nat.reduceAdd, Nat.reduceMul, Nat.reduceSub, i_lit, eq_self, and_true, true_and, and_self, not_true_eq_false, not_false_eq_true, or_true, true_or, or_false, false_or, false_and, and_false, reduceCtorEq, Nat.add_left_cancel_iff, Nat.add_zero, Nat.zero_add, md_all h, md_all h1, r2, hd, hkd]; done))
    | ((with_reducible refine e_in ?_ ?_); focus (simp (disch := omega) only [b_all, sV_all, ↓reduceIte, Nat.reduceEqDiff, Nat.reduceLT, Nat.reduceLeDiff, Nat.reduceAdd, Nat.reduceMul, Nat.reduceSub, i_lit, eq_self, and_true, true_and, and_self, not_true_eq_false, not_false_eq_true, or_true, true_or, or_false, false_or, false_and, and_false, reduceCtorEq, Nat.add_left_cancel_iff, Nat.add_zero, Nat.zero_add, md_all h, md_all h1, r2, hd, hkd]; done))
    | unfold fX5_deliver_18
    | fail)
  first | with_reducible rfl | simp (disch := omega) only [b_all, sV_all, ↓reduceIte, Nat.reduceEqDiff, Nat.reduceLT, Nat.reduceLeDiff, Nat.reduceAdd, Nat.reduceMul, Nat.reduceSub, i_lit, eq_self, and_true, true_and, and_self, not_true_eq_false, not_false_eq_true, or_true, true_or, or_false, false_or, false_and, and_false, reduceCtorEq, Nat.add_left_cancel_iff, Nat.add_zero, Nat.zero_add, md_all h, md_all h1, r2, hd, hkd]
def wTell (W : Ab) (i : Nat) : Ab := if W 8 (5 * W 20 (4 * i + 3) + W 20 (4 * i + 2)) = 0 then U (wTake (t0 W) i) 9 (5 * W 20 (4 * i + 3) + W 20 (4 * i + 2)) 1 else wTake (t0 W) i
theorem m_deliver_tell (hk : 5000 ≤ k) (h : St x B C W M) (hb : Bd W) {i : Nat} (hi : i < W 0 23) (hkd : W 20 (4 * i) = 5) (hto : W 20 (4 * i + 2) < 5) (ht : W 20 (4 * i + 3) < 200) (hd : W 2 (W 20 (4 * i + 2)) = 0) (hv1 : ∀ j, W 1 j + 202 < 1073741824) (hv2 : W 0 4 + 202 < 1073741824) : ∃ M', fX5_deliver x k (B + 25) (i32 i) M = some (i32 (stl (W 20 (4 * i + 2)) (W 0 5) (wTell W i) 0).2, M') ∧ St x B C (stl (W 20 (4 * i + 2)) (W 0 5) (wTell W i) 0).1 M' := by
  have h0 := hb.1
  have f0 := s_fails0 (k := k) h 1
  obtain ⟨M1, e, h1⟩ := s_take (k := k) hk (show St x B C (t0 W) _ from su0 h 27 0) (i := i) hi h0.2.2.2.1
  have hb1 : Bd (wTake (t0 W) i) := bd_take hb.t0 i
  have h8 : W 8 (5 * W 20 (4 * i + 3) + W 20 (4 * i + 2)) < 1073741824 := hb.r (by omega) _
  have r2 : wTake (t0 W) i 2 (W 20 (4 * i + 2)) = W 2 (W 20 (4 * i + 2)) := wTake_r _ _ (by omega) _
  have r8 : wTake (t0 W) i 8 (5 * W 20 (4 * i + 3) + W 20 (4 * i + 2)) = W 8 (5 * W 20 (4 * i + 3) + W 20 (4 * i + 2)) := wTake_r _ _ (by omega) _
  by_cases c : W 8 (5 * W 20 (4 * i + 3) + W 20 (4 * i + 2)) = 0
  · have eT : wTell W i = U (wTake (t0 W) i) 9 (5 * W 20 (4 * i + 3) + W 20 (4 * i + 2)) 1 := if_pos c
    have h2 := su9 h1 (5 * W 20 (4 * i + 3) + W 20 (4 * i + 2)) 1
    rw [← eT] at h2
    have hb2 : Bd (wTell W i) := by rw [eT]; exact hb1.u (by omega) _ (by decide)
    have q5 : wTell W i 0 5 = W 0 5 := by rw [eT, U_r _ (by omega), wTake_0 _ _ (by omega)]; rfl
    obtain ⟨M3, e3, h3⟩ := s_settles (k := k) hk h2 hb2 hto (fun j => by rw [eT, U_r _ (by omega), wTake_r _ _ (by omega)]; have := hv1 j; show W 1 j + 200 < _; omega) (by rw [eT, U_r _ (by omega), wTake_0 _ _ (by omega)]; show W 0 4 + 200 < _; omega)
    rw [q5] at e3 h3
    refine ⟨M3, ?_, h3⟩
    unfold fX5_deliver
    repeat (first
      | (with_reducible refine e_l1 ?_)
      | ((with_reducible refine e_k ?_ (mkM h) ?_); focus rfl)
      | ((with_reducible refine e_p ?_ (mp1 h) ?_); focus rfl)
      | ((with_reducible refine e_p ?_ (mp2 h) ?_); focus rfl)
      | ((with_reducible refine e_p ?_ (mp3 h) ?_); focus rfl)
      | ((with_reducible refine e_p ?_ (mp4 h) ?_); focus rfl)
      | ((with_reducible refine e_p ?_ (mp5 h) ?_); focus rfl)
      | ((with_reducible refine e_p ?_ (mp6 h) ?_); focus rfl)
      | ((with_reducible refine e_p ?_ (mp7 h) ?_); focus rfl)
      | ((with_reducible refine e_p ?_ (mp8 h) ?_); focus rfl)
      | ((with_reducible refine e_p ?_ (mp9 h) ?_); focus rfl)
      | ((with_reducible refine e_p ?_ (mp10 h) ?_); focus rfl)
      | ((with_reducible refine e_p ?_ (mp11 h) ?_); focus rfl)
      | ((with_reducible refine e_p ?_ (mp12 h) ?_); focus rfl)
      | ((with_reducible refine e_p ?_ (mp13 h) ?_); focus rfl)
      | ((with_reducible refine e_p ?_ (mp14 h) ?_); focus rfl)
      | ((with_reducible refine e_p ?_ (mp15 h) ?_); focus rfl)
      | ((with_reducible refine e_p ?_ (mp16 h) ?_); focus rfl)
      | ((with_reducible refine e_p ?_ (mp17 h) ?_); focus rfl)
      | ((with_reducible refine e_p ?_ (mp18 h) ?_); focus rfl)
      | ((with_reducible refine e_p ?_ (mp19 h) ?_); focus rfl)
      | ((with_reducible refine e_p ?_ (mp20 h) ?_); focus rfl)
      | ((with_reducible refine e_p ?_ (mp21 h) ?_); focus rfl)
      | ((with_reducible refine e_k ?_ (mkM h1) ?_); focus rfl)
      | ((with_reducible refine e_p ?_ (mp1 h1) ?_); focus rfl)
      | ((with_reducible refine e_p ?_ (mp2 h1) ?_); focus rfl)
      | ((with_reducible refine e_p ?_ (mp3 h1) ?_); focus rfl)
      | ((with_reducible refine e_p ?_ (mp4 h1) ?_); focus rfl)
      | ((with_reducible refine e_p ?_ (mp5 h1) ?_); focus rfl)
      | ((with_reducible refine e_p ?_ (mp6 h1) ?_); focus rfl)
      | ((with_reducible refine e_p ?_ (mp7 h1) ?_); focus rfl)
      | ((with_reducible refine e_p ?_ (mp8 h1) ?_); focus rfl)
      | ((with_reducible refine e_p ?_ (mp9 h1) ?_); focus rfl)
      | ((with_reducible refine e_p ?_ (mp10 h1) ?_); focus rfl)
      | ((with_reducible refine e_p ?_ (mp11 h1) ?_); focus rfl)
      | ((with_reducible refine e_p ?_ (mp12 h1) ?_); focus rfl)
      | ((with_reducible refine e_p ?_ (mp13 h1) ?_); focus rfl)
      | ((with_reducible refine e_p ?_ (mp14 h1) ?_); focus rfl)
      | ((with_reducible refine e_p ?_ (mp15 h1) ?_); focus rfl)
      | ((with_reducible refine e_p ?_ (mp16 h1) ?_); focus rfl)
      | ((with_reducible refine e_p ?_ (mp17 h1) ?_); focus rfl)
      | ((with_reducible refine e_p ?_ (mp18 h1) ?_); focus rfl)
      | ((with_reducible refine e_p ?_ (mp19 h1) ?_); focus rfl)
      | ((with_reducible refine e_p ?_ (mp20 h1) ?_); focus rfl)
      | ((with_reducible refine e_p ?_ (mp21 h1) ?_); focus rfl)
      | ((with_reducible refine e_k ?_ (mkM h2) ?_); focus rfl)
      | ((with_reducible refine e_p ?_ (mp1 h2) ?_); focus rfl)
      | ((with_reducible refine e_p ?_ (mp2 h2) ?_); focus rfl)
      | ((with_reducible refine e_p ?_ (mp3 h2) ?_); focus rfl)
      | ((with_reducible refine e_p ?_ (mp4 h2) ?_); focus rfl)
      | ((with_reducible refine e_p ?_ (mp5 h2) ?_); focus rfl)
      | ((with_reducible refine e_p ?_ (mp6 h2) ?_); focus rfl)
      | ((with_reducible refine e_p ?_ (mp7 h2) ?_); focus rfl)
      | ((with_reducible refine e_p ?_ (mp8 h2) ?_); focus rfl)
      | ((with_reducible refine e_p ?_ (mp9 h2) ?_); focus rfl)
      | ((with_reducible refine e_p ?_ (mp10 h2) ?_); focus rfl)
      | ((with_reducible refine e_p ?_ (mp11 h2) ?_); focus rfl)
      | ((with_reducible refine e_p ?_ (mp12 h2) ?_); focus rfl)
      | ((with_reducible refine e_p ?_ (mp13 h2) ?_); focus rfl)
      | ((with_reducible refine e_p ?_ (mp14 h2) ?_); focus rfl)
      | ((with_reducible refine e_p ?_ (mp15 h2) ?_); focus rfl)
      | ((with_reducible refine e_p ?_ (mp16 h2) ?_); focus rfl)
      | ((with_reducible refine e_p ?_ (mp17 h2) ?_); focus rfl)
      | ((with_reducible refine e_p ?_ (mp18 h2) ?_); focus rfl)
      | ((with_reducible refine e_p ?_ (mp19 h2) ?_); focus rfl)
      | ((with_reducible refine e_p ?_ (mp20 h2) ?_); focus rfl)
      | ((with_reducible refine e_p ?_ (mp21 h2) ?_); focus rfl)
      | ((with_reducible refine e_o2 ?_ f0 ?_); focus (first | with_reducible rfl | (simp (disch := omega) only [b_all, sV_all, ↓reduceIte, Nat.reduceEqDiff, Nat.reduceLT, Nat.reduceLeDiff, Nat.reduceAdd, Nat.reduceMul, Nat.reduceSub, i_lit, eq_self, and_true, true_and, and_self, not_true_eq_false, not_false_eq_true, or_true, true_or, or_false, false_or, false_and, and_false, reduceCtorEq, Nat.add_left_cancel_iff, Nat.add_zero, Nat.zero_add, md_all h, md_all h1, md_all h2, r2, r8, hd, hkd, c]; done)))
      | ((with_reducible refine e_o2 ?_ e ?_); focus (first | with_reducible rfl | (simp (disch := omega) only [b_all, sV_all, ↓reduceIte, Nat.reduceEqDiff, Nat.reduceLT, Nat.reduceLeDiff, Nat.reduceAdd, Nat.reduceMul, Nat.reduceSub, i_lit, eq_self, and_true, true_and, and_self, not_true_eq_false, not_false_eq_true, or_true, true_or, or_false, false_or, false_and, and_false, reduceCtorEq, Nat.add_left_cancel_iff, Nat.add_zero, Nat.zero_add, md_all h, md_all h1, md_all h2, r2, r8, hd, hkd, c]; done)))
      | ((with_reducible refine e_o2 ?_ e3 ?_); focus (first | with_reducible rfl | (simp (disch := omega) only [b_all, sV_all, ↓reduceIte, Nat.reduceEqDiff, Nat.reduceLT, Nat.reduceLeDiff, Nat.reduceAdd, Nat.reduceMul, Nat.reduceSub, i_lit, eq_self, and_true, true_and, and_self, not_true_eq_false, not_false_eq_true, or_true, true_or, or_false, false_or, false_and, and_false, reduceCtorEq, Nat.add_left_cancel_iff, Nat.add_zero, Nat.zero_add, md_all h, md_all h1, md_all h2, r2, r8, hd, hkd, c]; done)))
      | ((with_reducible refine e_ip ?_ ?_); focus (simp (disch := omega) only [b_all, sV_all, ↓reduceIte, Nat.reduceEqDiff, Nat.reduceLT, Nat.reduceLeDiff, Nat.reduceAdd, Nat.reduceMul, Nat.reduceSub, i_lit, eq_self, and_true, true_and, and_self, not_true_eq_false, not_false_eq_true, or_true, true_or, or_false, false_or, false_and, and_false, reduceCtorEq, Nat.add_left_cancel_iff, Nat.add_zero, Nat.zero_add, md_all h, md_all h1, md_all h2, r2, r8, hd, hkd, c]; done))
      | ((with_reducible refine e_in ?_ ?_); focus (simp (disch := omega) only [b_all, sV_all, ↓reduceIte, Nat.reduceEqDiff, Nat.reduceLT, Nat.reduceLeDiff, Nat.reduceAdd, Nat.reduceMul, Nat.reduceSub, i_lit, eq_self, and_true, true_and, and_self, not_true_eq_false, not_false_eq_true, or_true, true_or, or_false, false_or, false_and, and_false, reduceCtorEq, Nat.add_left_cancel_iff, Nat.add_zero, Nat.zero_add, md_all h, md_all h1, md_all h2, r2, r8, hd, hkd, c]; done))
      | unfold fX5_deliver_18
      | unfold fX5_deliver_307
      | fail)
    first | with_reducible rfl | simp (disch := omega) only [b_all, sV_all, ↓reduceIte, Nat.reduceEqDiff, Nat.reduceLT, Nat.reduceLeDiff, Nat.reduceAdd, Nat.reduceMul, Nat.reduceSub, i_lit, eq_self, and_true, true_and, and_self, not_true_eq_false, not_false_eq_true, or_true, true_or, or_false, false_or, false_and, and_false, reduceCtorEq, Nat.add_left_cancel_iff, Nat.add_zero, Nat.zero_add, md_all h, md_all h1, md_all h2, r2, r8, hd, hkd, c]
  · have eT : wTell W i = wTake (t0 W) i := if_neg c
    have q5 : wTell W i 0 5 = W 0 5 := by rw [eT, wTake_0 _ _ (by omega)]; rfl
    have h2 := h1
    rw [← eT] at h2
    have hb2 : Bd (wTell W i) := by rw [eT]; exact hb1
    obtain ⟨M3, e3, h3⟩ := s_settles (k := k) hk h2 hb2 hto (fun j => by rw [eT, wTake_r _ _ (by omega)]; have := hv1 j; show W 1 j + 200 < _; omega) (by rw [eT, wTake_0 _ _ (by omega)]; show W 0 4 + 200 < _; omega)
    rw [q5] at e3 h3
    refine ⟨M3, ?_, h3⟩
    unfold fX5_deliver
    repeat (first
      | (with_reducible refine e_l1 ?_)
      | ((with_reducible refine e_k ?_ (mkM h) ?_); focus rfl)
      | ((with_reducible refine e_p ?_ (mp1 h) ?_); focus rfl)
      | ((with_reducible refine e_p ?_ (mp2 h) ?_); focus rfl)
      | ((with_reducible refine e_p ?_ (mp3 h) ?_); focus rfl)
      | ((with_reducible refine e_p ?_ (mp4 h) ?_); focus rfl)
      | ((with_reducible refine e_p ?_ (mp5 h) ?_); focus rfl)
      | ((with_reducible refine e_p ?_ (mp6 h) ?_); focus rfl)
      | ((with_reducible refine e_p ?_ (mp7 h) ?_); focus rfl)
      | ((with_reducible refine e_p ?_ (mp8 h) ?_); focus rfl)
      | ((with_reducible refine e_p ?_ (mp9 h) ?_); focus rfl)
      | ((with_reducible refine e_p ?_ (mp10 h) ?_); focus rfl)
      | ((with_reducible refine e_p ?_ (mp11 h) ?_); focus rfl)
      | ((with_reducible refine e_p ?_ (mp12 h) ?_); focus rfl)
      | ((with_reducible refine e_p ?_ (mp13 h) ?_); focus rfl)
      | ((with_reducible refine e_p ?_ (mp14 h) ?_); focus rfl)
      | ((with_reducible refine e_p ?_ (mp15 h) ?_); focus rfl)
      | ((with_reducible refine e_p ?_ (mp16 h) ?_); focus rfl)
      | ((with_reducible refine e_p ?_ (mp17 h) ?_); focus rfl)
      | ((with_reducible refine e_p ?_ (mp18 h) ?_); focus rfl)
      | ((with_reducible refine e_p ?_ (mp19 h) ?_); focus rfl)
      | ((with_reducible refine e_p ?_ (mp20 h) ?_); focus rfl)
      | ((with_reducible refine e_p ?_ (mp21 h) ?_); focus rfl)
      | ((with_reducible refine e_k ?_ (mkM h1) ?_); focus rfl)
      | ((with_reducible refine e_p ?_ (mp1 h1) ?_); focus rfl)
      | ((with_reducible refine e_p ?_ (mp2 h1) ?_); focus rfl)
      | ((with_reducible refine e_p ?_ (mp3 h1) ?_); focus rfl)
      | ((with_reducible refine e_p ?_ (mp4 h1) ?_); focus rfl)
      | ((with_reducible refine e_p ?_ (mp5 h1) ?_); focus rfl)
      | ((with_reducible refine e_p ?_ (mp6 h1) ?_); focus rfl)
      | ((with_reducible refine e_p ?_ (mp7 h1) ?_); focus rfl)
      | ((with_reducible refine e_p ?_ (mp8 h1) ?_); focus rfl)
      | ((with_reducible refine e_p ?_ (mp9 h1) ?_); focus rfl)
      | ((with_reducible refine e_p ?_ (mp10 h1) ?_); focus rfl)
      | ((with_reducible refine e_p ?_ (mp11 h1) ?_); focus rfl)
      | ((with_reducible refine e_p ?_ (mp12 h1) ?_); focus rfl)
      | ((with_reducible refine e_p ?_ (mp13 h1) ?_); focus rfl)
      | ((with_reducible refine e_p ?_ (mp14 h1) ?_); focus rfl)
      | ((with_reducible refine e_p ?_ (mp15 h1) ?_); focus rfl)
      | ((with_reducible refine e_p ?_ (mp16 h1) ?_); focus rfl)
      | ((with_reducible refine e_p ?_ (mp17 h1) ?_); focus rfl)
      | ((with_reducible refine e_p ?_ (mp18 h1) ?_); focus rfl)
      | ((with_reducible refine e_p ?_ (mp19 h1) ?_); focus rfl)
      | ((with_reducible refine e_p ?_ (mp20 h1) ?_); focus rfl)
      | ((with_reducible refine e_p ?_ (mp21 h1) ?_); focus rfl)
      | ((with_reducible refine e_o2 ?_ f0 ?_); focus (first | with_reducible rfl | (simp (disch := omega) only [b_all, sV_all, ↓reduceIte, Nat.reduceEqDiff, Nat.reduceLT, Nat.reduceLeDiff, Nat.reduceAdd, Nat.reduceMul, Nat.reduceSub, i_lit, eq_self, and_true, true_and, and_self, not_true_eq_false, not_false_eq_true, or_true, true_or, or_false, false_or, false_and, and_false, reduceCtorEq, Nat.add_left_cancel_iff, Nat.add_zero, Nat.zero_add, md_all h, md_all h1, r2, r8, hd, hkd]; done)))
      | ((with_reducible refine e_o2 ?_ e ?_); focus (first | with_reducible rfl | (simp (disch := omega) only [b_all, sV_all, ↓reduceIte, Nat.reduceEqDiff, Nat.reduceLT, Nat.reduceLeDiff, Nat.reduceAdd, Nat.reduceMul, Nat.reduceSub, i_lit, eq_self, and_true, true_and, and_self, not_true_eq_false, not_false_eq_true, or_true, true_or, or_false, false_or, false_and, and_false, reduceCtorEq, Nat.add_left_cancel_iff, Nat.add_zero, Nat.zero_add, md_all h, md_all h1, r2, r8, hd, hkd]; done)))
      | ((with_reducible refine e_o2 ?_ e3 ?_); focus (first | with_reducible rfl | (simp (disch := omega) only [b_all, sV_all, ↓reduceIte, Nat.reduceEqDiff, Nat.reduceLT, Nat.reduceLeDiff, Nat.reduceAdd, Nat.reduceMul, Nat.reduceSub, i_lit, eq_self, and_true, true_and, and_self, not_true_eq_false, not_false_eq_true, or_true, true_or, or_false, false_or, false_and, and_false, reduceCtorEq, Nat.add_left_cancel_iff, Nat.add_zero, Nat.zero_add, md_all h, md_all h1, r2, r8, hd, hkd]; done)))
      | ((with_reducible refine e_ip ?_ ?_); focus (simp (disch := omega) only [b_all, sV_all, ↓reduceIte, Nat.reduceEqDiff, Nat.reduceLT, Nat.reduceLeDiff, Nat.reduceAdd, Nat.reduceMul, Nat.reduceSub, i_lit, eq_self, and_true, true_and, and_self, not_true_eq_false, not_false_eq_true, or_true, true_or, or_false, false_or, false_and, and_false, reduceCtorEq, Nat.add_left_cancel_iff, Nat.add_zero, Nat.zero_add, md_all h, md_all h1, r2, r8, hd, hkd]; done))
      | ((with_reducible refine e_in ?_ ?_); focus (simp (disch := omega) only [b_all, sV_all, ↓reduceIte, Nat.reduceEqDiff, Nat.reduceLT, Nat.reduceLeDiff, Nat.reduceAdd, Nat.reduceMul, Nat.reduceSub, i_lit, eq_self, and_true, true_and, and_self, not_true_eq_false, not_false_eq_true, or_true, true_or, or_false, false_or, false_and, and_false, reduceCtorEq, Nat.add_left_cancel_iff, Nat.add_zero, Nat.zero_add, md_all h, md_all h1, r2, r8, hd, hkd]; done))
      | unfold fX5_deliver_18
      | unfold fX5_deliver_307
      | fail)
    first | with_reducible rfl | simp (disch := omega) only [b_all, sV_all, ↓reduceIte, Nat.reduceEqDiff, Nat.reduceLT, Nat.reduceLeDiff, Nat.reduceAdd, Nat.reduceMul, Nat.reduceSub, i_lit, eq_self, and_true, true_and, and_self, not_true_eq_false, not_false_eq_true, or_true, true_or, or_false, false_or, false_and, and_false, reduceCtorEq, Nat.add_left_cancel_iff, Nat.add_zero, Nat.zero_add, md_all h, md_all h1, r2, r8, hd, hkd]
/-- about, total -/
theorem m_about_iae (h : St x B C W M) (hb : Bd W) {t w : Nat} (ht : t < 4294967296) (hw : w < 4294967296) (hn : ¬ (t < W 0 5 ∧ w ≤ 4)) : fX5_about x k (B + 25) (i32 t) (i32 w) M = some (i32 0, sV M (B + 25) 27 (i32 1)) := by
  have ei := s_isOne (k := k) h ht hb.1.2.2.1
  have f0 := s_fails1 (k := k) h 1
  unfold fX5_about
  by_cases c : t < W 0 5
  · by_cases c2 : 2147483648 ≤ w
    · have en := i_neg hw
      repeat (first
        | (with_reducible refine e_l1 ?_)
        | ((with_reducible refine e_k ?_ (mkM h) ?_); focus rfl)
        | ((with_reducible refine e_p ?_ (mp1 h) ?_); focus rfl)
        | ((with_reducible refine e_p ?_ (mp2 h) ?_); focus rfl)
        | ((with_reducible refine e_p ?_ (mp3 h) ?_); focus rfl)
        | ((with_reducible refine e_p ?_ (mp4 h) ?_); focus rfl)
        | ((with_reducible refine e_p ?_ (mp5 h) ?_); focus rfl)
        | ((with_reducible refine e_p ?_ (mp6 h) ?_); focus rfl)
        | ((with_reducible refine e_p ?_ (mp7 h) ?_); focus rfl)
        | ((with_reducible refine e_p ?_ (mp8 h) ?_); focus rfl)
        | ((with_reducible refine e_p ?_ (mp9 h) ?_); focus rfl)
        | ((with_reducible refine e_p ?_ (mp10 h) ?_); focus rfl)
        | ((with_reducible refine e_p ?_ (mp11 h) ?_); focus rfl)
        | ((with_reducible refine e_p ?_ (mp12 h) ?_); focus rfl)
        | ((with_reducible refine e_p ?_ (mp13 h) ?_); focus rfl)
        | ((with_reducible refine e_p ?_ (mp14 h) ?_); focus rfl)
        | ((with_reducible refine e_p ?_ (mp15 h) ?_); focus rfl)
        | ((with_reducible refine e_p ?_ (mp16 h) ?_); focus rfl)
        | ((with_reducible refine e_p ?_ (mp17 h) ?_); focus rfl)
        | ((with_reducible refine e_p ?_ (mp18 h) ?_); focus rfl)
        | ((with_reducible refine e_p ?_ (mp19 h) ?_); focus rfl)
        | ((with_reducible refine e_p ?_ (mp20 h) ?_); focus rfl)
        | ((with_reducible refine e_p ?_ (mp21 h) ?_); focus rfl)
        | ((with_reducible refine e_o2 ?_ ei ?_); focus (first | with_reducible rfl | (simp (disch := omega) only [b_all, sV_all, ↓reduceIte, Nat.reduceEqDiff, Nat.reduceLT, Nat.reduceLeDiff, Nat.reduceAdd, Nat.reduceMul, Nat.reduceSub, i_lit, eq_self, and_true, true_and, and_self, not_true_eq_false, not_false_eq_true, or_true, true_or, or_false, false_or, false_and, and_false, reduceCtorEq, Nat.add_left_cancel_iff, Nat.add_zero, Nat.zero_add, md_all h, en]; done)))
        | ((with_reducible refine e_o2 ?_ f0 ?_); focus (first | with_reducible rfl | (simp (disch := omega) only [b_all, sV_all, ↓reduceIte, Nat.reduceEqDiff, Nat.reduceLT, Nat.reduceLeDiff, Nat.reduceAdd, Nat.reduceMul, Nat.reduceSub, i_lit, eq_self, and_true, true_and, and_self, not_true_eq_false, not_false_eq_true, or_true, true_or, or_false, false_or, false_and, and_false, reduceCtorEq, Nat.add_left_cancel_iff, Nat.add_zero, Nat.zero_add, md_all h, en]; done)))
        | ((with_reducible refine e_ip ?_ ?_); focus (simp (disch := omega) only [b_all, sV_all, ↓reduceIte, Nat.reduceEqDiff, Nat.reduceLT, Nat.reduceLeDiff, Nat.reduceAdd, Nat.reduceMul, Nat.reduceSub, i_lit, eq_self, and_true, true_and, and_self, not_true_eq_false, not_false_eq_true, or_true, true_or, or_false, false_or, false_and, and_false, reduceCtorEq, Nat.add_left_cancel_iff, Nat.add_zero, Nat.zero_add, md_all h, en]; done))
        | ((with_reducible refine e_in ?_ ?_); focus (simp (disch := omega) only [b_all, sV_all, ↓reduceIte, Nat.reduceEqDiff, Nat.reduceLT, Nat.reduceLeDiff, Nat.reduceAdd, Nat.reduceMul, Nat.reduceSub, i_lit, eq_self, and_true, true_and, and_self, not_true_eq_false, not_false_eq_true, or_true, true_or, or_false, false_or, false_and, and_false, reduceCtorEq, Nat.add_left_cancel_iff, Nat.add_zero, Nat.zero_add, md_all h, en]; done))
        | unfold fX5_about_18
        | unfold fX5_about_23
        | fail)
      first | with_reducible rfl | simp (disch := omega) only [b_all, sV_all, ↓reduceIte, Nat.reduceEqDiff, Nat.reduceLT, Nat.reduceLeDiff, Nat.reduceAdd, Nat.reduceMul, Nat.reduceSub, i_lit, eq_self, and_true, true_and, and_self, not_true_eq_false, not_false_eq_true, or_true, true_or, or_false, false_or, false_and, and_false, reduceCtorEq, Nat.add_left_cancel_iff, Nat.add_zero, Nat.zero_add, md_all h, en]
    · repeat (first
        | (with_reducible refine e_l1 ?_)
        | ((with_reducible refine e_k ?_ (mkM h) ?_); focus rfl)
        | ((with_reducible refine e_p ?_ (mp1 h) ?_); focus rfl)
        | ((with_reducible refine e_p ?_ (mp2 h) ?_); focus rfl)
        | ((with_reducible refine e_p ?_ (mp3 h) ?_); focus rfl)
        | ((with_reducible refine e_p ?_ (mp4 h) ?_); focus rfl)
        | ((with_reducible refine e_p ?_ (mp5 h) ?_); focus rfl)
        | ((with_reducible refine e_p ?_ (mp6 h) ?_); focus rfl)
        | ((with_reducible refine e_p ?_ (mp7 h) ?_); focus rfl)
        | ((with_reducible refine e_p ?_ (mp8 h) ?_); focus rfl)
        | ((with_reducible refine e_p ?_ (mp9 h) ?_); focus rfl)
        | ((with_reducible refine e_p ?_ (mp10 h) ?_); focus rfl)
        | ((with_reducible refine e_p ?_ (mp11 h) ?_); focus rfl)
        | ((with_reducible refine e_p ?_ (mp12 h) ?_); focus rfl)
        | ((with_reducible refine e_p ?_ (mp13 h) ?_); focus rfl)
        | ((with_reducible refine e_p ?_ (mp14 h) ?_); focus rfl)
        | ((with_reducible refine e_p ?_ (mp15 h) ?_); focus rfl)
        | ((with_reducible refine e_p ?_ (mp16 h) ?_); focus rfl)
        | ((with_reducible refine e_p ?_ (mp17 h) ?_); focus rfl)
        | ((with_reducible refine e_p ?_ (mp18 h) ?_); focus rfl)
        | ((with_reducible refine e_p ?_ (mp19 h) ?_); focus rfl)
        | ((with_reducible refine e_p ?_ (mp20 h) ?_); focus rfl)
        | ((with_reducible refine e_p ?_ (mp21 h) ?_); focus rfl)
        | ((with_reducible refine e_o2 ?_ ei ?_); focus (first | with_reducible rfl | (simp (disch := omega) only [b_all, sV_all, ↓reduceIte, Nat.reduceEqDiff, Nat.reduceLT, Nat.reduceLeDiff, Nat.reduceAdd, Nat.reduceMul, Nat.reduceSub, i_lit, eq_self, and_true, true_and, and_self, not_true_eq_false, not_false_eq_true, or_true, true_or, or_false, false_or, false_and, and_false, reduceCtorEq, Nat.add_left_cancel_iff, Nat.add_zero, Nat.zero_add, md_all h]; done)))
        | ((with_reducible refine e_o2 ?_ f0 ?_); focus (first | with_reducible rfl | (simp (disch := omega) only [b_all, sV_all, ↓reduceIte, Nat.reduceEqDiff, Nat.reduceLT, Nat.reduceLeDiff, Nat.reduceAdd, Nat.reduceMul, Nat.reduceSub, i_lit, eq_self, and_true, true_and, and_self, not_true_eq_false, not_false_eq_true, or_true, true_or, or_false, false_or, false_and, and_false, reduceCtorEq, Nat.add_left_cancel_iff, Nat.add_zero, Nat.zero_add, md_all h]; done)))
        | ((with_reducible refine e_ip ?_ ?_); focus (simp (disch := omega) only [b_all, sV_all, ↓reduceIte, Nat.reduceEqDiff, Nat.reduceLT, Nat.reduceLeDiff, Nat.reduceAdd, Nat.reduceMul, Nat.reduceSub, i_lit, eq_self, and_true, true_and, and_self, not_true_eq_false, not_false_eq_true, or_true, true_or, or_false, false_or, false_and, and_false, reduceCtorEq, Nat.add_left_cancel_iff, Nat.add_zero, Nat.zero_add, md_all h]; done))
        | ((with_reducible refine e_in ?_ ?_); focus (simp (disch := omega) only [b_all, sV_all, ↓reduceIte, Nat.reduceEqDiff, Nat.reduceLT, Nat.reduceLeDiff, Nat.reduceAdd, Nat.reduceMul, Nat.reduceSub, i_lit, eq_self, and_true, true_and, and_self, not_true_eq_false, not_false_eq_true, or_true, true_or, or_false, false_or, false_and, and_false, reduceCtorEq, Nat.add_left_cancel_iff, Nat.add_zero, Nat.zero_add, md_all h]; done))
        | unfold fX5_about_18
        | unfold fX5_about_23
        | fail)
      first | with_reducible rfl | simp (disch := omega) only [b_all, sV_all, ↓reduceIte, Nat.reduceEqDiff, Nat.reduceLT, Nat.reduceLeDiff, Nat.reduceAdd, Nat.reduceMul, Nat.reduceSub, i_lit, eq_self, and_true, true_and, and_self, not_true_eq_false, not_false_eq_true, or_true, true_or, or_false, false_or, false_and, and_false, reduceCtorEq, Nat.add_left_cancel_iff, Nat.add_zero, Nat.zero_add, md_all h]
  · repeat (first
      | (with_reducible refine e_l1 ?_)
      | ((with_reducible refine e_k ?_ (mkM h) ?_); focus rfl)
      | ((with_reducible refine e_p ?_ (mp1 h) ?_); focus rfl)
      | ((with_reducible refine e_p ?_ (mp2 h) ?_); focus rfl)
      | ((with_reducible refine e_p ?_ (mp3 h) ?_); focus rfl)
      | ((with_reducible refine e_p ?_ (mp4 h) ?_); focus rfl)
      | ((with_reducible refine e_p ?_ (mp5 h) ?_); focus rfl)
      | ((with_reducible refine e_p ?_ (mp6 h) ?_); focus rfl)
      | ((with_reducible refine e_p ?_ (mp7 h) ?_); focus rfl)
      | ((with_reducible refine e_p ?_ (mp8 h) ?_); focus rfl)
      | ((with_reducible refine e_p ?_ (mp9 h) ?_); focus rfl)
      | ((with_reducible refine e_p ?_ (mp10 h) ?_); focus rfl)
      | ((with_reducible refine e_p ?_ (mp11 h) ?_); focus rfl)
      | ((with_reducible refine e_p ?_ (mp12 h) ?_); focus rfl)
      | ((with_reducible refine e_p ?_ (mp13 h) ?_); focus rfl)
      | ((with_reducible refine e_p ?_ (mp14 h) ?_); focus rfl)
      | ((with_reducible refine e_p ?_ (mp15 h) ?_); focus rfl)
      | ((with_reducible refine e_p ?_ (mp16 h) ?_); focus rfl)
      | ((with_reducible refine e_p ?_ (mp17 h) ?_); focus rfl)
      | ((with_reducible refine e_p ?_ (mp18 h) ?_); focus rfl)
      | ((with_reducible refine e_p ?_ (mp19 h) ?_); focus rfl)
      | ((with_reducible refine e_p ?_ (mp20 h) ?_); focus rfl)
      | ((with_reducible refine e_p ?_ (mp21 h) ?_); focus rfl)
      | ((with_reducible refine e_o2 ?_ ei ?_); focus (first | with_reducible rfl | (simp (disch := omega) only [b_all, sV_all, ↓reduceIte, Nat.reduceEqDiff, Nat.reduceLT, Nat.reduceLeDiff, Nat.reduceAdd, Nat.reduceMul, Nat.reduceSub, i_lit, eq_self, and_true, true_and, and_self, not_true_eq_false, not_false_eq_true, or_true, true_or, or_false, false_or, false_and, and_false, reduceCtorEq, Nat.add_left_cancel_iff, Nat.add_zero, Nat.zero_add, md_all h]; done)))
      | ((with_reducible refine e_o2 ?_ f0 ?_); focus (first | with_reducible rfl | (simp (disch := omega) only [b_all, sV_all, ↓reduceIte, Nat.reduceEqDiff, Nat.reduceLT, Nat.reduceLeDiff, Nat.reduceAdd, Nat.reduceMul, Nat.reduceSub, i_lit, eq_self, and_true, true_and, and_self, not_true_eq_false, not_false_eq_true, or_true, true_or, or_false, false_or, false_and, and_false, reduceCtorEq, Nat.add_left_cancel_iff, Nat.add_zero, Nat.zero_add, md_all h]; done)))
      | ((with_reducible refine e_ip ?_ ?_); focus (simp (disch := omega) only [b_all, sV_all, ↓reduceIte, Nat.reduceEqDiff, Nat.reduceLT, Nat.reduceLeDiff, Nat.reduceAdd, Nat.reduceMul, Nat.reduceSub, i_lit, eq_self, and_true, true_and, and_self, not_true_eq_false, not_false_eq_true, or_true, true_or, or_false, false_or, false_and, and_false, reduceCtorEq, Nat.add_left_cancel_iff, Nat.add_zero, Nat.zero_add, md_all h]; done))
      | ((with_reducible refine e_in ?_ ?_); focus (simp (disch := omega) only [b_all, sV_all, ↓reduceIte, Nat.reduceEqDiff, Nat.reduceLT, Nat.reduceLeDiff, Nat.reduceAdd, Nat.reduceMul, Nat.reduceSub, i_lit, eq_self, and_true, true_and, and_self, not_true_eq_false, not_false_eq_true, or_true, true_or, or_false, false_or, false_and, and_false, reduceCtorEq, Nat.add_left_cancel_iff, Nat.add_zero, Nat.zero_add, md_all h]; done))
      | unfold fX5_about_18
      | unfold fX5_about_23
      | fail)
    first | with_reducible rfl | simp (disch := omega) only [b_all, sV_all, ↓reduceIte, Nat.reduceEqDiff, Nat.reduceLT, Nat.reduceLeDiff, Nat.reduceAdd, Nat.reduceMul, Nat.reduceSub, i_lit, eq_self, and_true, true_and, and_self, not_true_eq_false, not_false_eq_true, or_true, true_or, or_false, false_or, false_and, and_false, reduceCtorEq, Nat.add_left_cancel_iff, Nat.add_zero, Nat.zero_add, md_all h]
def pAb (W : Ab) (t w s : Nat) : Prop := if w = 3 then 0 < W 8 (5 * t + s) else W 12 (5 * t + s) ≠ 0
theorem s_about75 (h : St x B C W M) (hb : Bd W) {t w : Nat} (ht : t < 200) (hw : w = 3 ∨ w = 4) : ∀ n j, j ≤ W 0 0 → W 0 0 < n + j → fX5_about_75 x k n (B + 25) (i32 w) (i32 t) (i32 (ct (pAb W t w) j)) (i32 j) M = some (i32 (ct (pAb W t w) (W 0 0)), M) := by
  have h0 := hb.1
  intro n
  induction n with
  | zero => intro u h1 h2; omega
  | succ n ih =>
    intro j hj hn
    by_cases hc : W 0 0 ≤ j
    · obtain rfl : j = W 0 0 := by omega
      rw [fX5_about_75]
      repeat (first
        | (with_reducible refine e_l1 ?_)
        | ((with_reducible refine e_k ?_ (mkM h) ?_); focus rfl)
        | ((with_reducible refine e_p ?_ (mp1 h) ?_); focus rfl)
        | ((with_reducible refine e_p ?_ (mp2 h) ?_); focus rfl)
        | ((with_reducible refine e_p ?_ (mp3 h) ?_); focus rfl)
        | ((with_reducible refine e_p ?_ (mp4 h) ?_); focus rfl)
        | ((with_reducible refine e_p ?_ (mp5 h) ?_); focus rfl)
        | ((with_reducible refine e_p ?_ (mp6 h) ?_); focus rfl)
        | ((with_reducible refine e_p ?_ (mp7 h) ?_); focus rfl)
        | ((with_reducible refine e_p ?_ (mp8 h) ?_); focus rfl)
        | ((with_reducible refine e_p ?_ (mp9 h) ?_); focus rfl)
        | ((with_reducible refine e_p ?_ (mp10 h) ?_); focus rfl)
        | ((with_reducible refine e_p ?_ (mp11 h) ?_); focus rfl)
        | ((with_reducible refine e_p ?_ (mp12 h) ?_); focus rfl)
        | ((with_reducible refine e_p ?_ (mp13 h) ?_); focus rfl)
        | ((with_reducible refine e_p ?_ (mp14 h) ?_); focus rfl)
        | ((with_reducible refine e_p ?_ (mp15 h) ?_); focus rfl)
        | ((with_reducible refine e_p ?_ (mp16 h) ?_); focus rfl)
        | ((with_reducible refine e_p ?_ (mp17 h) ?_); focus rfl)
        | ((with_reducible refine e_p ?_ (mp18 h) ?_); focus rfl)
        | ((with_reducible refine e_p ?_ (mp19 h) ?_); focus rfl)
        | ((with_reducible refine e_p ?_ (mp20 h) ?_); focus rfl)
        | ((with_reducible refine e_p ?_ (mp21 h) ?_); focus rfl)
        | ((with_reducible refine e_ip ?_ ?_); focus (simp (disch := omega) only [b_all, sV_all, ↓reduceIte, Nat.reduceEqDiff, Nat.reduceLT, Nat.reduceLeDiff, Nat.reduceAdd, Nat.reduceMul, Nat.reduceSub, i_lit, eq_self, and_true, true_and, and_self, not_true_eq_false, not_false_eq_true, or_true, true_or, or_false, false_or, false_and, and_false, reduceCtorEq, Nat.add_left_cancel_iff, Nat.add_zero, Nat.zero_add, md_all h]; done))
        | ((with_reducible refine e_in ?_ ?_); focus (simp (disch := omega) only [b_all, sV_all, ↓reduceIte, Nat.reduceEqDiff, Nat.reduceLT, Nat.reduceLeDiff, Nat.reduceAdd, Nat.reduceMul, Nat.reduceSub, i_lit, eq_self, and_true, true_and, and_self, not_true_eq_false, not_false_eq_true, or_true, true_or, or_false, false_or, false_and, and_false, reduceCtorEq, Nat.add_left_cancel_iff, Nat.add_zero, Nat.zero_add, md_all h]; done))
        | fail)
      first | with_reducible rfl | simp (disch := omega) only [b_all, sV_all, ↓reduceIte, Nat.reduceEqDiff, Nat.reduceLT, Nat.reduceLeDiff, Nat.reduceAdd, Nat.reduceMul, Nat.reduceSub, i_lit, eq_self, and_true, true_and, and_self, not_true_eq_false, not_false_eq_true, or_true, true_or, or_false, false_or, false_and, and_false, reduceCtorEq, Nat.add_left_cancel_iff, Nat.add_zero, Nat.zero_add, md_all h]
    · have e := ih (j + 1) (by omega) (by omega)
      rw [← e, fX5_about_75, ct]
      have h8 : W 8 (5 * t + j) < 1073741824 := hb.r (by omega) _
      have h12 : W 12 (5 * t + j) < 2 := hb.r (by omega) _
      rcases hw with hw | hw
      · by_cases c : W 8 (5 * t + j) = 0
        · rw [bp_f (show ¬ pAb W t w j by unfold pAb; rw [if_pos hw]; omega)]
          repeat (first
            | (with_reducible refine e_l1 ?_)
            | ((with_reducible refine e_k ?_ (mkM h) ?_); focus rfl)
            | ((with_reducible refine e_p ?_ (mp1 h) ?_); focus rfl)
            | ((with_reducible refine e_p ?_ (mp2 h) ?_); focus rfl)
            | ((with_reducible refine e_p ?_ (mp3 h) ?_); focus rfl)
            | ((with_reducible refine e_p ?_ (mp4 h) ?_); focus rfl)
            | ((with_reducible refine e_p ?_ (mp5 h) ?_); focus rfl)
            | ((with_reducible refine e_p ?_ (mp6 h) ?_); focus rfl)
            | ((with_reducible refine e_p ?_ (mp7 h) ?_); focus rfl)
            | ((with_reducible refine e_p ?_ (mp8 h) ?_); focus rfl)
            | ((with_reducible refine e_p ?_ (mp9 h) ?_); focus rfl)
            | ((with_reducible refine e_p ?_ (mp10 h) ?_); focus rfl)
            | ((with_reducible refine e_p ?_ (mp11 h) ?_); focus rfl)
            | ((with_reducible refine e_p ?_ (mp12 h) ?_); focus rfl)
            | ((with_reducible refine e_p ?_ (mp13 h) ?_); focus rfl)
            | ((with_reducible refine e_p ?_ (mp14 h) ?_); focus rfl)
            | ((with_reducible refine e_p ?_ (mp15 h) ?_); focus rfl)
            | ((with_reducible refine e_p ?_ (mp16 h) ?_); focus rfl)
            | ((with_reducible refine e_p ?_ (mp17 h) ?_); focus rfl)
            | ((with_reducible refine e_p ?_ (mp18 h) ?_); focus rfl)
            | ((with_reducible refine e_p ?_ (mp19 h) ?_); focus rfl)
            | ((with_reducible refine e_p ?_ (mp20 h) ?_); focus rfl)
            | ((with_reducible refine e_p ?_ (mp21 h) ?_); focus rfl)
            | ((with_reducible refine e_ip ?_ ?_); focus (simp (disch := omega) only [b_all, sV_all, ↓reduceIte, Nat.reduceEqDiff, Nat.reduceLT, Nat.reduceLeDiff, Nat.reduceAdd, Nat.reduceMul, Nat.reduceSub, i_lit, eq_self, and_true, true_and, and_self, not_true_eq_false, not_false_eq_true, or_true, true_or, or_false, false_or, false_and, and_false, reduceCtorEq, Nat.add_left_cancel_iff, Nat.add_zero, Nat.zero_add, md_all h, hw]; done))
            | ((with_reducible refine e_in ?_ ?_); focus (simp (disch := omega) only [b_all, sV_all, ↓reduceIte, Nat.reduceEqDiff, Nat.reduceLT, Nat.reduceLeDiff, Nat.reduceAdd, Nat.reduceMul, Nat.reduceSub, i_lit, eq_self, and_true, true_and, and_self, not_true_eq_false, not_false_eq_true, or_true, true_or, or_false, false_or, false_and, and_false, reduceCtorEq, Nat.add_left_cancel_iff, Nat.add_zero, Nat.zero_add, md_all h, hw]; done))
            | unfold fX5_about_132
            | fail)
          first | with_reducible rfl | simp (disch := omega) only [b_all, sV_all, ↓reduceIte, Nat.reduceEqDiff, Nat.reduceLT, Nat.reduceLeDiff, Nat.reduceAdd, Nat.reduceMul, Nat.reduceSub, i_lit, eq_self, and_true, true_and, and_self, not_true_eq_false, not_false_eq_true, or_true, true_or, or_false, false_or, false_and, and_false, reduceCtorEq, Nat.add_left_cancel_iff, Nat.add_zero, Nat.zero_add, md_all h, hw]
        · rw [bp_t (show pAb W t w j by unfold pAb; rw [if_pos hw]; omega)]
          repeat (first
            | (with_reducible refine e_l1 ?_)
            | ((with_reducible refine e_k ?_ (mkM h) ?_); focus rfl)
            | ((with_reducible refine e_p ?_ (mp1 h) ?_); focus rfl)
            | ((with_reducible refine e_p ?_ (mp2 h) ?_); focus rfl)
            | ((with_reducible refine e_p ?_ (mp3 h) ?_); focus rfl)
            | ((with_reducible refine e_p ?_ (mp4 h) ?_); focus rfl)
            | ((with_reducible refine e_p ?_ (mp5 h) ?_); focus rfl)
            | ((with_reducible refine e_p ?_ (mp6 h) ?_); focus rfl)
            | ((with_reducible refine e_p ?_ (mp7 h) ?_); focus rfl)
            | ((with_reducible refine e_p ?_ (mp8 h) ?_); focus rfl)
            | ((with_reducible refine e_p ?_ (mp9 h) ?_); focus rfl)
            | ((with_reducible refine e_p ?_ (mp10 h) ?_); focus rfl)
            | ((with_reducible refine e_p ?_ (mp11 h) ?_); focus rfl)
            | ((with_reducible refine e_p ?_ (mp12 h) ?_); focus rfl)
            | ((with_reducible refine e_p ?_ (mp13 h) ?_); focus rfl)
            | ((with_reducible refine e_p ?_ (mp14 h) ?_); focus rfl)
            | ((with_reducible refine e_p ?_ (mp15 h) ?_); focus rfl)
            | ((with_reducible refine e_p ?_ (mp16 h) ?_); focus rfl)
            | ((with_reducible refine e_p ?_ (mp17 h) ?_); focus rfl)
            | ((with_reducible refine e_p ?_ (mp18 h) ?_); focus rfl)
            | ((with_reducible refine e_p ?_ (mp19 h) ?_); focus rfl)
            | ((with_reducible refine e_p ?_ (mp20 h) ?_); focus rfl)
            | ((with_reducible refine e_p ?_ (mp21 h) ?_); focus rfl)
            | ((with_reducible refine e_ip ?_ ?_); focus (simp (disch := omega) only [b_all, sV_all, ↓reduceIte, Nat.reduceEqDiff, Nat.reduceLT, Nat.reduceLeDiff, Nat.reduceAdd, Nat.reduceMul, Nat.reduceSub, i_lit, eq_self, and_true, true_and, and_self, not_true_eq_false, not_false_eq_true, or_true, true_or, or_false, false_or, false_and, and_false, reduceCtorEq, Nat.add_left_cancel_iff, Nat.add_zero, Nat.zero_add, md_all h, hw]; done))
            | ((with_reducible refine e_in ?_ ?_); focus (simp (disch := omega) only [b_all, sV_all, ↓reduceIte, Nat.reduceEqDiff, Nat.reduceLT, Nat.reduceLeDiff, Nat.reduceAdd, Nat.reduceMul, Nat.reduceSub, i_lit, eq_self, and_true, true_and, and_self, not_true_eq_false, not_false_eq_true, or_true, true_or, or_false, false_or, false_and, and_false, reduceCtorEq, Nat.add_left_cancel_iff, Nat.add_zero, Nat.zero_add, md_all h, hw]; done))
            | unfold fX5_about_132
            | fail)
          first | with_reducible rfl | simp (disch := omega) only [b_all, sV_all, ↓reduceIte, Nat.reduceEqDiff, Nat.reduceLT, Nat.reduceLeDiff, Nat.reduceAdd, Nat.reduceMul, Nat.reduceSub, i_lit, eq_self, and_true, true_and, and_self, not_true_eq_false, not_false_eq_true, or_true, true_or, or_false, false_or, false_and, and_false, reduceCtorEq, Nat.add_left_cancel_iff, Nat.add_zero, Nat.zero_add, md_all h, hw]
      · by_cases c : W 12 (5 * t + j) = 0
        · rw [bp_f (show ¬ pAb W t w j by unfold pAb; rw [if_neg (by omega)]; omega)]
          repeat (first
            | (with_reducible refine e_l1 ?_)
            | ((with_reducible refine e_k ?_ (mkM h) ?_); focus rfl)
            | ((with_reducible refine e_p ?_ (mp1 h) ?_); focus rfl)
            | ((with_reducible refine e_p ?_ (mp2 h) ?_); focus rfl)
            | ((with_reducible refine e_p ?_ (mp3 h) ?_); focus rfl)
            | ((with_reducible refine e_p ?_ (mp4 h) ?_); focus rfl)
            | ((with_reducible refine e_p ?_ (mp5 h) ?_); focus rfl)
            | ((with_reducible refine e_p ?_ (mp6 h) ?_); focus rfl)
            | ((with_reducible refine e_p ?_ (mp7 h) ?_); focus rfl)
            | ((with_reducible refine e_p ?_ (mp8 h) ?_); focus rfl)
            | ((with_reducible refine e_p ?_ (mp9 h) ?_); focus rfl)
            | ((with_reducible refine e_p ?_ (mp10 h) ?_); focus rfl)
            | ((with_reducible refine e_p ?_ (mp11 h) ?_); focus rfl)
            | ((with_reducible refine e_p ?_ (mp12 h) ?_); focus rfl)
            | ((with_reducible refine e_p ?_ (mp13 h) ?_); focus rfl)
            | ((with_reducible refine e_p ?_ (mp14 h) ?_); focus rfl)
            | ((with_reducible refine e_p ?_ (mp15 h) ?_); focus rfl)
            | ((with_reducible refine e_p ?_ (mp16 h) ?_); focus rfl)
            | ((with_reducible refine e_p ?_ (mp17 h) ?_); focus rfl)
            | ((with_reducible refine e_p ?_ (mp18 h) ?_); focus rfl)
            | ((with_reducible refine e_p ?_ (mp19 h) ?_); focus rfl)
            | ((with_reducible refine e_p ?_ (mp20 h) ?_); focus rfl)
            | ((with_reducible refine e_p ?_ (mp21 h) ?_); focus rfl)
            | ((with_reducible refine e_ip ?_ ?_); focus (simp (disch := omega) only [b_all, sV_all, ↓reduceIte, Nat.reduceEqDiff, Nat.reduceLT, Nat.reduceLeDiff, Nat.reduceAdd, Nat.reduceMul, Nat.reduceSub, i_lit, eq_self, and_true, true_and, and_self, not_true_eq_false, not_false_eq_true, or_true, true_or, or_false, false_or, false_and, and_false, reduceCtorEq, Nat.add_left_cancel_iff, Nat.add_zero, Nat.zero_add, md_all h, hw]; done))
            | ((with_reducible refine e_in ?_ ?_); focus (simp (disch := omega) only [b_all, sV_all, ↓reduceIte, Nat.reduceEqDiff, Nat.reduceLT, Nat.reduceLeDiff, Nat.reduceAdd, Nat.reduceMul, Nat.reduceSub, i_lit, eq_self, and_true, true_and, and_self, not_true_eq_false, not_false_eq_true, or_true, true_or, or_false, false_or, false_and, and_false, reduceCtorEq, Nat.add_left_cancel_iff, Nat.add_zero, Nat.zero_add, md_all h, hw]; done))
            | unfold fX5_about_132
            | fail)
          first | with_reducible rfl | simp (disch := omega) only [b_all, sV_all, ↓reduceIte, Nat.reduceEqDiff, Nat.reduceLT, Nat.reduceLeDiff, Nat.reduceAdd, Nat.reduceMul, Nat.reduceSub, i_lit, eq_self, and_true, true_and, and_self, not_true_eq_false, not_false_eq_true, or_true, true_or, or_false, false_or, false_and, and_false, reduceCtorEq, Nat.add_left_cancel_iff, Nat.add_zero, Nat.zero_add, md_all h, hw]
        · rw [bp_t (show pAb W t w j by unfold pAb; rw [if_neg (by omega)]; omega)]
          repeat (first
            | (with_reducible refine e_l1 ?_)
            | ((with_reducible refine e_k ?_ (mkM h) ?_); focus rfl)
            | ((with_reducible refine e_p ?_ (mp1 h) ?_); focus rfl)
            | ((with_reducible refine e_p ?_ (mp2 h) ?_); focus rfl)
            | ((with_reducible refine e_p ?_ (mp3 h) ?_); focus rfl)
            | ((with_reducible refine e_p ?_ (mp4 h) ?_); focus rfl)
            | ((with_reducible refine e_p ?_ (mp5 h) ?_); focus rfl)
            | ((with_reducible refine e_p ?_ (mp6 h) ?_); focus rfl)
            | ((with_reducible refine e_p ?_ (mp7 h) ?_); focus rfl)
            | ((with_reducible refine e_p ?_ (mp8 h) ?_); focus rfl)
            | ((with_reducible refine e_p ?_ (mp9 h) ?_); focus rfl)
            | ((with_reducible refine e_p ?_ (mp10 h) ?_); focus rfl)
            | ((with_reducible refine e_p ?_ (mp11 h) ?_); focus rfl)
            | ((with_reducible refine e_p ?_ (mp12 h) ?_); focus rfl)
            | ((with_reducible refine e_p ?_ (mp13 h) ?_); focus rfl)
            | ((with_reducible refine e_p ?_ (mp14 h) ?_); focus rfl)
            | ((with_reducible refine e_p ?_ (mp15 h) ?_); focus rfl)
            | ((with_reducible refine e_p ?_ (mp16 h) ?_); focus rfl)
            | ((with_reducible refine e_p ?_ (mp17 h) ?_); focus rfl)
            | ((with_reducible refine e_p ?_ (mp18 h) ?_); focus rfl)
            | ((with_reducible refine e_p ?_ (mp19 h) ?_); focus rfl)
            | ((with_reducible refine e_p ?_ (mp20 h) ?_); focus rfl)
            | ((with_reducible refine e_p ?_ (mp21 h) ?_); focus rfl)
            | ((with_reducible refine e_ip ?_ ?_); focus (simp (disch := omega) only [b_all, sV_all, ↓reduceIte, Nat.reduceEqDiff, Nat.reduceLT, Nat.reduceLeDiff, Nat.reduceAdd, Nat.reduceMul, Nat.reduceSub, i_lit, eq_self, and_true, true_and, and_self, not_true_eq_false, not_false_eq_true, or_true, true_or, or_false, false_or, false_and, and_false, reduceCtorEq, Nat.add_left_cancel_iff, Nat.add_zero, Nat.zero_add, md_all h, hw]; done))
            | ((with_reducible refine e_in ?_ ?_); focus (simp (disch := omega) only [b_all, sV_all, ↓reduceIte, Nat.reduceEqDiff, Nat.reduceLT, Nat.reduceLeDiff, Nat.reduceAdd, Nat.reduceMul, Nat.reduceSub, i_lit, eq_self, and_true, true_and, and_self, not_true_eq_false, not_false_eq_true, or_true, true_or, or_false, false_or, false_and, and_false, reduceCtorEq, Nat.add_left_cancel_iff, Nat.add_zero, Nat.zero_add, md_all h, hw]; done))
            | unfold fX5_about_132
            | fail)
          first | with_reducible rfl | simp (disch := omega) only [b_all, sV_all, ↓reduceIte, Nat.reduceEqDiff, Nat.reduceLT, Nat.reduceLeDiff, Nat.reduceAdd, Nat.reduceMul, Nat.reduceSub, i_lit, eq_self, and_true, true_and, and_self, not_true_eq_false, not_false_eq_true, or_true, true_or, or_false, false_or, false_and, and_false, reduceCtorEq, Nat.add_left_cancel_iff, Nat.add_zero, Nat.zero_add, md_all h, hw]
theorem m_about_ok (hk : 5000 ≤ k) (h : St x B C W M) (hb : Bd W) {t w : Nat} (ht : t < W 0 5) (hw : w ≤ 4) : ∃ M', fX5_about x k (B + 25) (i32 t) (i32 w) M = some (i32 (if w = 0 then W 5 t else if w = 1 then W 4 t else if w = 2 then W 6 t else ct (pAb (t0 W) t w) (W 0 0)), M') ∧ St x B C (t0 W) M' := by
  have h0 := hb.1
  have ei := s_isOne (k := k) h (a := t) (by omega) hb.1.2.2.1
  have f0 := s_fails0 (k := k) h 1
  have hh : St x B C (t0 W) _ := su0 h 27 0
  refine ⟨_, ?_, hh⟩
  by_cases c0 : w = 0
  · rw [if_pos c0]
    unfold fX5_about
    repeat (first
      | (with_reducible refine e_l1 ?_)
      | ((with_reducible refine e_k ?_ (mkM h) ?_); focus rfl)
      | ((with_reducible refine e_p ?_ (mp1 h) ?_); focus rfl)
      | ((with_reducible refine e_p ?_ (mp2 h) ?_); focus rfl)
      | ((with_reducible refine e_p ?_ (mp3 h) ?_); focus rfl)
      | ((with_reducible refine e_p ?_ (mp4 h) ?_); focus rfl)
      | ((with_reducible refine e_p ?_ (mp5 h) ?_); focus rfl)
      | ((with_reducible refine e_p ?_ (mp6 h) ?_); focus rfl)
      | ((with_reducible refine e_p ?_ (mp7 h) ?_); focus rfl)
      | ((with_reducible refine e_p ?_ (mp8 h) ?_); focus rfl)
      | ((with_reducible refine e_p ?_ (mp9 h) ?_); focus rfl)
      | ((with_reducible refine e_p ?_ (mp10 h) ?_); focus rfl)
      | ((with_reducible refine e_p ?_ (mp11 h) ?_); focus rfl)
      | ((with_reducible refine e_p ?_ (mp12 h) ?_); focus rfl)
      | ((with_reducible refine e_p ?_ (mp13 h) ?_); focus rfl)
      | ((with_reducible refine e_p ?_ (mp14 h) ?_); focus rfl)
      | ((with_reducible refine e_p ?_ (mp15 h) ?_); focus rfl)
      | ((with_reducible refine e_p ?_ (mp16 h) ?_); focus rfl)
      | ((with_reducible refine e_p ?_ (mp17 h) ?_); focus rfl)
      | ((with_reducible refine e_p ?_ (mp18 h) ?_); focus rfl)
      | ((with_reducible refine e_p ?_ (mp19 h) ?_); focus rfl)
      | ((with_reducible refine e_p ?_ (mp20 h) ?_); focus rfl)
      | ((with_reducible refine e_p ?_ (mp21 h) ?_); focus rfl)
      | ((with_reducible refine e_o2 ?_ ei ?_); focus (first | with_reducible rfl | (simp (disch := omega) only [b_all, sV_all, ↓reduceIte, Nat.reduceEqDiff, Nat.reduceLT, Nat.reduceLeDiff, Nat.reduceAdd, Nat.reduceMul, Nat.reduceSub, i_lit, eq_self, and_true, true_and, and_self, not_true_eq_false, not_false_eq_true, or_true, true_or, or_false, false_or, false_and, and_false, reduceCtorEq, Nat.add_left_cancel_iff, Nat.add_zero, Nat.zero_add, md_all h, c0]; done)))
      | ((with_reducible refine e_o2 ?_ f0 ?_); focus (first | with_reducible rfl | (simp (disch := omega) only [b_all, sV_all, ↓reduceIte, Nat.reduceEqDiff, Nat.reduceLT, Nat.reduceLeDiff, Nat.reduceAdd, Nat.reduceMul, Nat.reduceSub, i_lit, eq_self, and_true, true_and, and_self, not_true_eq_false, not_false_eq_true, or_true, true_or, or_false, false_or, false_and, and_false, reduceCtorEq, Nat.add_left_cancel_iff, Nat.add_zero, Nat.zero_add, md_all h, c0]; done)))
      | ((with_reducible refine e_ip ?_ ?_); focus (simp (disch := omega) only [b_all, sV_all, ↓reduceIte, Nat.reduceEqDiff, Nat.reduceLT, Nat.reduceLeDiff, Nat.reduceAdd, Nat.reduceMul, Nat.reduceSub, i_lit, eq_self, and_true, true_and, and_self, not_true_eq_false, not_false_eq_true, or_true, true_or, or_false, false_or, false_and, and_false, reduceCtorEq, Nat.add_left_cancel_iff, Nat.add_zero, Nat.zero_add, md_all h, c0]; done))
      | ((with_reducible refine e_in ?_ ?_); focus (simp (disch := omega) only [b_all, sV_all, ↓reduceIte, Nat.reduceEqDiff, Nat.reduceLT, Nat.reduceLeDiff, Nat.reduceAdd, Nat.reduceMul, Nat.reduceSub, i_lit, eq_self, and_true, true_and, and_self, not_true_eq_false, not_false_eq_true, or_true, true_or, or_false, false_or, false_and, and_false, reduceCtorEq, Nat.add_left_cancel_iff, Nat.add_zero, Nat.zero_add, md_all h, c0]; done))
      | unfold fX5_about_23
      | fail)
    first | with_reducible rfl | simp (disch := omega) only [b_all, sV_all, ↓reduceIte, Nat.reduceEqDiff, Nat.reduceLT, Nat.reduceLeDiff, Nat.reduceAdd, Nat.reduceMul, Nat.reduceSub, i_lit, eq_self, and_true, true_and, and_self, not_true_eq_false, not_false_eq_true, or_true, true_or, or_false, false_or, false_and, and_false, reduceCtorEq, Nat.add_left_cancel_iff, Nat.add_zero, Nat.zero_add, md_all h, c0]
  · by_cases c1 : w = 1
    · rw [if_neg c0, if_pos c1]
      unfold fX5_about
      repeat (first
        | (with_reducible refine e_l1 ?_)
        | ((with_reducible refine e_k ?_ (mkM h) ?_); focus rfl)
        | ((with_reducible refine e_p ?_ (mp1 h) ?_); focus rfl)
        | ((with_reducible refine e_p ?_ (mp2 h) ?_); focus rfl)
        | ((with_reducible refine e_p ?_ (mp3 h) ?_); focus rfl)
        | ((with_reducible refine e_p ?_ (mp4 h) ?_); focus rfl)
        | ((with_reducible refine e_p ?_ (mp5 h) ?_); focus rfl)
        | ((with_reducible refine e_p ?_ (mp6 h) ?_); focus rfl)
        | ((with_reducible refine e_p ?_ (mp7 h) ?_); focus rfl)
        | ((with_reducible refine e_p ?_ (mp8 h) ?_); focus rfl)
        | ((with_reducible refine e_p ?_ (mp9 h) ?_); focus rfl)
        | ((with_reducible refine e_p ?_ (mp10 h) ?_); focus rfl)
        | ((with_reducible refine e_p ?_ (mp11 h) ?_); focus rfl)
        | ((with_reducible refine e_p ?_ (mp12 h) ?_); focus rfl)
        | ((with_reducible refine e_p ?_ (mp13 h) ?_); focus rfl)
        | ((with_reducible refine e_p ?_ (mp14 h) ?_); focus rfl)
        | ((with_reducible refine e_p ?_ (mp15 h) ?_); focus rfl)
        | ((with_reducible refine e_p ?_ (mp16 h) ?_); focus rfl)
        | ((with_reducible refine e_p ?_ (mp17 h) ?_); focus rfl)
        | ((with_reducible refine e_p ?_ (mp18 h) ?_); focus rfl)
        | ((with_reducible refine e_p ?_ (mp19 h) ?_); focus rfl)
        | ((with_reducible refine e_p ?_ (mp20 h) ?_); focus rfl)
        | ((with_reducible refine e_p ?_ (mp21 h) ?_); focus rfl)
        | ((with_reducible refine e_o2 ?_ ei ?_); focus (first | with_reducible rfl | (simp (disch := omega) only [b_all, sV_all, ↓reduceIte, Nat.reduceEqDiff, Nat.reduceLT, Nat.reduceLeDiff, Nat.reduceAdd, Nat.reduceMul, Nat.reduceSub, i_lit, eq_self, and_true, true_and, and_self, not_true_eq_false, not_false_eq_true, or_true, true_or, or_false, false_or, false_and, and_false, reduceCtorEq, Nat.add_left_cancel_iff, Nat.add_zero, Nat.zero_add, md_all h, c1]; done)))
        | ((with_reducible refine e_o2 ?_ f0 ?_); focus (first | with_reducible rfl | (simp (disch := omega) only [b_all, sV_all, ↓reduceIte, Nat.reduceEqDiff, Nat.reduceLT, Nat.reduceLeDiff, Nat.reduceAdd, Nat.reduceMul, Nat.reduceSub, i_lit, eq_self, and_true, true_and, and_self, not_true_eq_false, not_false_eq_true, or_true, true_or, or_false, false_or, false_and, and_false, reduceCtorEq, Nat.add_left_cancel_iff, Nat.add_zero, Nat.zero_add, md_all h, c1]; done)))
        | ((with_reducible refine e_ip ?_ ?_); focus (simp (disch := omega) only [b_all, sV_all, ↓reduceIte, Nat.reduceEqDiff, Nat.reduceLT, Nat.reduceLeDiff, Nat.reduceAdd, Nat.reduceMul, Nat.reduceSub, i_lit, eq_self, and_true, true_and, and_self, not_true_eq_false, not_false_eq_true, or_true, true_or, or_false, false_or, false_and, and_false, reduceCtorEq, Nat.add_left_cancel_iff, Nat.add_zero, Nat.zero_add, md_all h, c1]; done))
        | ((with_reducible refine e_in ?_ ?_); focus (simp (disch := omega) only [b_all, sV_all, ↓reduceIte, Nat.reduceEqDiff, Nat.reduceLT, Nat.reduceLeDiff, Nat.reduceAdd, Nat.reduceMul, Nat.reduceSub, i_lit, eq_self, and_true, true_and, and_self, not_true_eq_false, not_false_eq_true, or_true, true_or, or_false, false_or, false_and, and_false, reduceCtorEq, Nat.add_left_cancel_iff, Nat.add_zero, Nat.zero_add, md_all h, c1]; done))
        | unfold fX5_about_23
        | fail)
      first | with_reducible rfl | simp (disch := omega) only [b_all, sV_all, ↓reduceIte, Nat.reduceEqDiff, Nat.reduceLT, Nat.reduceLeDiff, Nat.reduceAdd, Nat.reduceMul, Nat.reduceSub, i_lit, eq_self, and_true, true_and, and_self, not_true_eq_false, not_false_eq_true, or_true, true_or, or_false, false_or, false_and, and_false, reduceCtorEq, Nat.add_left_cancel_iff, Nat.add_zero, Nat.zero_add, md_all h, c1]
    · by_cases c2 : w = 2
      · rw [if_neg c0, if_neg c1, if_pos c2]
        unfold fX5_about
        repeat (first
          | (with_reducible refine e_l1 ?_)
          | ((with_reducible refine e_k ?_ (mkM h) ?_); focus rfl)
          | ((with_reducible refine e_p ?_ (mp1 h) ?_); focus rfl)
          | ((with_reducible refine e_p ?_ (mp2 h) ?_); focus rfl)
          | ((with_reducible refine e_p ?_ (mp3 h) ?_); focus rfl)
          | ((with_reducible refine e_p ?_ (mp4 h) ?_); focus rfl)
          | ((with_reducible refine e_p ?_ (mp5 h) ?_); focus rfl)
          | ((with_reducible refine e_p ?_ (mp6 h) ?_); focus rfl)
          | ((with_reducible refine e_p ?_ (mp7 h) ?_); focus rfl)
          | ((with_reducible refine e_p ?_ (mp8 h) ?_); focus rfl)
          | ((with_reducible refine e_p ?_ (mp9 h) ?_); focus rfl)
          | ((with_reducible refine e_p ?_ (mp10 h) ?_); focus rfl)
          | ((with_reducible refine e_p ?_ (mp11 h) ?_); focus rfl)
          | ((with_reducible refine e_p ?_ (mp12 h) ?_); focus rfl)
          | ((with_reducible refine e_p ?_ (mp13 h) ?_); focus rfl)
          | ((with_reducible refine e_p ?_ (mp14 h) ?_); focus rfl)
          | ((with_reducible refine e_p ?_ (mp15 h) ?_); focus rfl)
          | ((with_reducible refine e_p ?_ (mp16 h) ?_); focus rfl)
          | ((with_reducible refine e_p ?_ (mp17 h) ?_); focus rfl)
          | ((with_reducible refine e_p ?_ (mp18 h) ?_); focus rfl)
          | ((with_reducible refine e_p ?_ (mp19 h) ?_); focus rfl)
          | ((with_reducible refine e_p ?_ (mp20 h) ?_); focus rfl)
          | ((with_reducible refine e_p ?_ (mp21 h) ?_); focus rfl)
          | ((with_reducible refine e_o2 ?_ ei ?_); focus (first | with_reducible rfl | (simp (disch := omega) only [b_all, sV_all, ↓reduceIte, Nat.reduceEqDiff, Nat.reduceLT, Nat.reduceLeDiff, Nat.reduceAdd, Nat.reduceMul, Nat.reduceSub, i_lit, eq_self, and_true, true_and, and_self, not_true_eq_false, not_false_eq_true, or_true, true_or, or_false, false_or, false_and, and_false, reduceCtorEq, Nat.add_left_cancel_iff, Nat.add_zero, Nat.zero_add, md_all h, c2]; done)))
          | ((with_reducible refine e_o2 ?_ f0 ?_); focus (first | with_reducible rfl | (simp (disch := omega) only [b_all, sV_all, ↓reduceIte, Nat.reduceEqDiff, Nat.reduceLT, Nat.reduceLeDiff, Nat.reduceAdd, Nat.reduceMul, Nat.reduceSub, i_lit, eq_self, and_true, true_and, and_self, not_true_eq_false, not_false_eq_true, or_true, true_or, or_false, false_or, false_and, and_false, reduceCtorEq, Nat.add_left_cancel_iff, Nat.add_zero, Nat.zero_add, md_all h, c2]; done)))
          | ((with_reducible refine e_ip ?_ ?_); focus (simp (disch := omega) only [b_all, sV_all, ↓reduceIte, Nat.reduceEqDiff, Nat.reduceLT, Nat.reduceLeDiff, Nat.reduceAdd, Nat.reduceMul, Nat.reduceSub, i_lit, eq_self, and_true, true_and, and_self, not_true_eq_false, not_false_eq_true, or_true, true_or, or_false, false_or, false_and, and_false, reduceCtorEq, Nat.add_left_cancel_iff, Nat.add_zero, Nat.zero_add, md_all h, c2]; done))
          | ((with_reducible refine e_in ?_ ?_); focus (simp (disch := omega) only [b_all, sV_all, ↓reduceIte, Nat.reduceEqDiff, Nat.reduceLT, Nat.reduceLeDiff, Nat.reduceAdd, Nat.reduceMul, Nat.reduceSub, i_lit, eq_self, and_true, true_and, and_self, not_true_eq_false, not_false_eq_true, or_true, true_or, or_false, false_or, false_and, and_false, reduceCtorEq, Nat.add_left_cancel_iff, Nat.add_zero, Nat.zero_add, md_all h, c2]; done))
          | unfold fX5_about_23
          | fail)
        first | with_reducible rfl | simp (disch := omega) only [b_all, sV_all, ↓reduceIte, Nat.reduceEqDiff, Nat.reduceLT, Nat.reduceLeDiff, Nat.reduceAdd, Nat.reduceMul, Nat.reduceSub, i_lit, eq_self, and_true, true_and, and_self, not_true_eq_false, not_false_eq_true, or_true, true_or, or_false, false_or, false_and, and_false, reduceCtorEq, Nat.add_left_cancel_iff, Nat.add_zero, Nat.zero_add, md_all h, c2]
      · rw [if_neg c0, if_neg c1, if_neg c2]
        have e := s_about75 (k := k) hh hb.t0 (t := t) (w := w) (by omega) (by omega) k 0 (Nat.zero_le _) (by show W 0 0 < k + 0; omega)
        have w00 : t0 W 0 0 = W 0 0 := rfl
        rw [w00] at e
        rw [← e]
        unfold fX5_about
        repeat (first
          | (with_reducible refine e_l1 ?_)
          | ((with_reducible refine e_k ?_ (mkM h) ?_); focus rfl)
          | ((with_reducible refine e_p ?_ (mp1 h) ?_); focus rfl)
          | ((with_reducible refine e_p ?_ (mp2 h) ?_); focus rfl)
          | ((with_reducible refine e_p ?_ (mp3 h) ?_); focus rfl)
          | ((with_reducible refine e_p ?_ (mp4 h) ?_); focus rfl)
          | ((with_reducible refine e_p ?_ (mp5 h) ?_); focus rfl)
          | ((with_reducible refine e_p ?_ (mp6 h) ?_); focus rfl)
          | ((with_reducible refine e_p ?_ (mp7 h) ?_); focus rfl)
          | ((with_reducible refine e_p ?_ (mp8 h) ?_); focus rfl)
          | ((with_reducible refine e_p ?_ (mp9 h) ?_); focus rfl)
          | ((with_reducible refine e_p ?_ (mp10 h) ?_); focus rfl)
          | ((with_reducible refine e_p ?_ (mp11 h) ?_); focus rfl)
          | ((with_reducible refine e_p ?_ (mp12 h) ?_); focus rfl)
          | ((with_reducible refine e_p ?_ (mp13 h) ?_); focus rfl)
          | ((with_reducible refine e_p ?_ (mp14 h) ?_); focus rfl)
          | ((with_reducible refine e_p ?_ (mp15 h) ?_); focus rfl)
          | ((with_reducible refine e_p ?_ (mp16 h) ?_); focus rfl)
          | ((with_reducible refine e_p ?_ (mp17 h) ?_); focus rfl)
          | ((with_reducible refine e_p ?_ (mp18 h) ?_); focus rfl)
          | ((with_reducible refine e_p ?_ (mp19 h) ?_); focus rfl)
          | ((with_reducible refine e_p ?_ (mp20 h) ?_); focus rfl)
          | ((with_reducible refine e_p ?_ (mp21 h) ?_); focus rfl)
          | ((with_reducible refine e_o2 ?_ ei ?_); focus (first | with_reducible rfl | (simp (disch := omega) only [b_all, sV_all, ↓reduceIte, Nat.reduceEqDiff, Nat.reduceLT, Nat.reduceLeDiff, Nat.reduceAdd, Nat.reduceMul, Nat.reduceSub, i_lit, eq_self, and_true, true_and, and_self, not_true_eq_false, not_false_eq_true, or_true, true_or, or_false, false_or, false_and, and_false, reduceCtorEq, Nat.add_left_cancel_iff, Nat.add_zero, Nat.zero_add, md_all h, ct]; done)))
          | ((with_reducible refine e_o2 ?_ f0 ?_); focus (first | with_reducible rfl | (simp (disch := omega) only [b_all, sV_all, ↓reduceIte, Nat.reduceEqDiff, Nat.reduceLT, Nat.reduceLeDiff, Nat.reduceAdd, Nat.reduceMul, Nat.reduceSub, i_lit, eq_self, and_true, true_and, and_self, not_true_eq_false, not_false_eq_true, or_true, true_or, or_false, false_or, false_and, and_false, reduceCtorEq, Nat.add_left_cancel_iff, Nat.add_zero, Nat.zero_add, md_all h, ct]; done)))
          | ((with_reducible refine e_ip ?_ ?_); focus (simp (disch := omega) only [b_all, sV_all, ↓reduceIte, Nat.reduceEqDiff, Nat.reduceLT, Nat.reduceLeDiff, Nat.reduceAdd, Nat.reduceMul, Nat.reduceSub, i_lit, eq_self, and_true, true_and, and_self, not_true_eq_false, not_false_eq_true, or_true, true_or, or_false, false_or, false_and, and_false, reduceCtorEq, Nat.add_left_cancel_iff, Nat.add_zero, Nat.zero_add, md_all h, ct]; done))
          | ((with_reducible refine e_in ?_ ?_); focus (simp (disch := omega) only [b_all, sV_all, ↓reduceIte, Nat.reduceEqDiff, Nat.reduceLT, Nat.reduceLeDiff, Nat.reduceAdd, Nat.reduceMul, Nat.reduceSub, i_lit, eq_self, and_true, true_and, and_self, not_true_eq_false, not_false_eq_true, or_true, true_or, or_false, false_or, false_and, and_false, reduceCtorEq, Nat.add_left_cancel_iff, Nat.add_zero, Nat.zero_add, md_all h, ct]; done))
          | unfold fX5_about_23
          | fail)
        first | with_reducible rfl | simp (disch := omega) only [b_all, sV_all, ↓reduceIte, Nat.reduceEqDiff, Nat.reduceLT, Nat.reduceLeDiff, Nat.reduceAdd, Nat.reduceMul, Nat.reduceSub, i_lit, eq_self, and_true, true_and, and_self, not_true_eq_false, not_false_eq_true, or_true, true_or, or_false, false_or, false_and, and_false, reduceCtorEq, Nat.add_left_cancel_iff, Nat.add_zero, Nat.zero_add, md_all h, ct]
theorem m_total_iae (h : St x B C W M) {w : Nat} (hw : w < 4294967296) (hn : ¬ w ≤ 4) : fX5_total x k (B + 25) (i32 w) M = some (i32 0, sV M (B + 25) 27 (i32 1)) := by
  have f0 := s_fails1 (k := k) h 1
  unfold fX5_total
  by_cases c2 : 2147483648 ≤ w
  · have en := i_neg hw
    repeat (first
      | (with_reducible refine e_l1 ?_)
      | ((with_reducible refine e_k ?_ (mkM h) ?_); focus rfl)
      | ((with_reducible refine e_p ?_ (mp1 h) ?_); focus rfl)
      | ((with_reducible refine e_p ?_ (mp2 h) ?_); focus rfl)
      | ((with_reducible refine e_p ?_ (mp3 h) ?_); focus rfl)
      | ((with_reducible refine e_p ?_ (mp4 h) ?_); focus rfl)
      | ((with_reducible refine e_p ?_ (mp5 h) ?_); focus rfl)
      | ((with_reducible refine e_p ?_ (mp6 h) ?_); focus rfl)
      | ((with_reducible refine e_p ?_ (mp7 h) ?_); focus rfl)
      | ((with_reducible refine e_p ?_ (mp8 h) ?_); focus rfl)
      | ((with_reducible refine e_p ?_ (mp9 h) ?_); focus rfl)
      | ((with_reducible refine e_p ?_ (mp10 h) ?_); focus rfl)
      | ((with_reducible refine e_p ?_ (mp11 h) ?_); focus rfl)
      | ((with_reducible refine e_p ?_ (mp12 h) ?_); focus rfl)
      | ((with_reducible refine e_p ?_ (mp13 h) ?_); focus rfl)
      | ((with_reducible refine e_p ?_ (mp14 h) ?_); focus rfl)
      | ((with_reducible refine e_p ?_ (mp15 h) ?_); focus rfl)
      | ((with_reducible refine e_p ?_ (mp16 h) ?_); focus rfl)
      | ((with_reducible refine e_p ?_ (mp17 h) ?_); focus rfl)
      | ((with_reducible refine e_p ?_ (mp18 h) ?_); focus rfl)
      | ((with_reducible refine e_p ?_ (mp19 h) ?_); focus rfl)
      | ((with_reducible refine e_p ?_ (mp20 h) ?_); focus rfl)
      | ((with_reducible refine e_p ?_ (mp21 h) ?_); focus rfl)
      | ((with_reducible refine e_o2 ?_ f0 ?_); focus (first | with_reducible rfl | (simp (disch := omega) only [b_all, sV_all, ↓reduceIte, Nat.reduceEqDiff, Nat.reduceLT, Nat.reduceLeDiff, Nat.reduceAdd, Nat.reduceMul, Nat.reduceSub, i_lit, eq_self, and_true, true_and, and_self, not_true_eq_false, not_false_eq_true, or_true, true_or, or_false, false_or, false_and, and_false, reduceCtorEq, Nat.add_left_cancel_iff, Nat.add_zero, Nat.zero_add, md_all h, en]; done)))
      | ((with_reducible refine e_ip ?_ ?_); focus (simp (disch := omega) only [b_all, sV_all, ↓reduceIte, Nat.reduceEqDiff, Nat.reduceLT, Nat.reduceLeDiff, Nat.reduceAdd, Nat.reduceMul, Nat.reduceSub, i_lit, eq_self, and_true, true_and, and_self, not_true_eq_false, not_false_eq_true, or_true, true_or, or_false, false_or, false_and, and_false, reduceCtorEq, Nat.add_left_cancel_iff, Nat.add_zero, Nat.zero_add, md_all h, en]; done))
      | ((with_reducible refine e_in ?_ ?_); focus (simp (disch := omega) only [b_all, sV_all, ↓reduceIte, Nat.reduceEqDiff, Nat.reduceLT, Nat.reduceLeDiff, Nat.reduceAdd, Nat.reduceMul, Nat.reduceSub, i_lit, eq_self, and_true, true_and, and_self, not_true_eq_false, not_false_eq_true, or_true, true_or, or_false, false_or, false_and, and_false, reduceCtorEq, Nat.add_left_cancel_iff, Nat.add_zero, Nat.zero_add, md_all h, en]; done))
      | unfold fX5_total_10
      | unfold fX5_total_15
      | fail)
    first | with_reducible rfl | simp (disch := omega) only [b_all, sV_all, ↓reduceIte, Nat.reduceEqDiff, Nat.reduceLT, Nat.reduceLeDiff, Nat.reduceAdd, Nat.reduceMul, Nat.reduceSub, i_lit, eq_self, and_true, true_and, and_self, not_true_eq_false, not_false_eq_true, or_true, true_or, or_false, false_or, false_and, and_false, reduceCtorEq, Nat.add_left_cancel_iff, Nat.add_zero, Nat.zero_add, md_all h, en]
  · repeat (first
      | (with_reducible refine e_l1 ?_)
      | ((with_reducible refine e_k ?_ (mkM h) ?_); focus rfl)
      | ((with_reducible refine e_p ?_ (mp1 h) ?_); focus rfl)
      | ((with_reducible refine e_p ?_ (mp2 h) ?_); focus rfl)
      | ((with_reducible refine e_p ?_ (mp3 h) ?_); focus rfl)
      | ((with_reducible refine e_p ?_ (mp4 h) ?_); focus rfl)
      | ((with_reducible refine e_p ?_ (mp5 h) ?_); focus rfl)
      | ((with_reducible refine e_p ?_ (mp6 h) ?_); focus rfl)
      | ((with_reducible refine e_p ?_ (mp7 h) ?_); focus rfl)
      | ((with_reducible refine e_p ?_ (mp8 h) ?_); focus rfl)
      | ((with_reducible refine e_p ?_ (mp9 h) ?_); focus rfl)
      | ((with_reducible refine e_p ?_ (mp10 h) ?_); focus rfl)
      | ((with_reducible refine e_p ?_ (mp11 h) ?_); focus rfl)
      | ((with_reducible refine e_p ?_ (mp12 h) ?_); focus rfl)
      | ((with_reducible refine e_p ?_ (mp13 h) ?_); focus rfl)
      | ((with_reducible refine e_p ?_ (mp14 h) ?_); focus rfl)
      | ((with_reducible refine e_p ?_ (mp15 h) ?_); focus rfl)
      | ((with_reducible refine e_p ?_ (mp16 h) ?_); focus rfl)
      | ((with_reducible refine e_p ?_ (mp17 h) ?_); focus rfl)
      | ((with_reducible refine e_p ?_ (mp18 h) ?_); focus rfl)
      | ((with_reducible refine e_p ?_ (mp19 h) ?_); focus rfl)
      | ((with_reducible refine e_p ?_ (mp20 h) ?_); focus rfl)
      | ((with_reducible refine e_p ?_ (mp21 h) ?_); focus rfl)
      | ((with_reducible refine e_o2 ?_ f0 ?_); focus (first | with_reducible rfl | (simp (disch := omega) only [b_all, sV_all, ↓reduceIte, Nat.reduceEqDiff, Nat.reduceLT, Nat.reduceLeDiff, Nat.reduceAdd, Nat.reduceMul, Nat.reduceSub, i_lit, eq_self, and_true, true_and, and_self, not_true_eq_false, not_false_eq_true, or_true, true_or, or_false, false_or, false_and, and_false, reduceCtorEq, Nat.add_left_cancel_iff, Nat.add_zero, Nat.zero_add, md_all h]; done)))
      | ((with_reducible refine e_ip ?_ ?_); focus (simp (disch := omega) only [b_all, sV_all, ↓reduceIte, Nat.reduceEqDiff, Nat.reduceLT, Nat.reduceLeDiff, Nat.reduceAdd, Nat.reduceMul, Nat.reduceSub, i_lit, eq_self, and_true, true_and, and_self, not_true_eq_false, not_false_eq_true, or_true, true_or, or_false, false_or, false_and, and_false, reduceCtorEq, Nat.add_left_cancel_iff, Nat.add_zero, Nat.zero_add, md_all h]; done))
      | ((with_reducible refine e_in ?_ ?_); focus (simp (disch := omega) only [b_all, sV_all, ↓reduceIte, Nat.reduceEqDiff, Nat.reduceLT, Nat.reduceLeDiff, Nat.reduceAdd, Nat.reduceMul, Nat.reduceSub, i_lit, eq_self, and_true, true_and, and_self, not_true_eq_false, not_false_eq_true, or_true, true_or, or_false, false_or, false_and, and_false, reduceCtorEq, Nat.add_left_cancel_iff, Nat.add_zero, Nat.zero_add, md_all h]; done))
      | unfold fX5_total_10
      | unfold fX5_total_15
      | fail)
    first | with_reducible rfl | simp (disch := omega) only [b_all, sV_all, ↓reduceIte, Nat.reduceEqDiff, Nat.reduceLT, Nat.reduceLeDiff, Nat.reduceAdd, Nat.reduceMul, Nat.reduceSub, i_lit, eq_self, and_true, true_and, and_self, not_true_eq_false, not_false_eq_true, or_true, true_or, or_false, false_or, false_and, and_false, reduceCtorEq, Nat.add_left_cancel_iff, Nat.add_zero, Nat.zero_add, md_all h]
theorem s_total97 (h : St x B C W M) (hb : Bd W) : ∀ n j, j ≤ W 0 0 → W 0 0 < n + j → fX5_total_97 x k n (B + 25) (i32 4) (i32 (ct (fun s => W 2 s = 0) j)) (i32 j) M = some (i32 (ct (fun s => W 2 s = 0) (W 0 0)), M) := by
  have h0 := hb.1
  intro n
  induction n with
  | zero => intro u h1 h2; omega
  | succ n ih =>
    intro j hj hn
    by_cases hc : W 0 0 ≤ j
    · obtain rfl : j = W 0 0 := by omega
      rw [fX5_total_97]
      repeat (first
        | (with_reducible refine e_l1 ?_)
        | ((with_reducible refine e_k ?_ (mkM h) ?_); focus rfl)
        | ((with_reducible refine e_p ?_ (mp1 h) ?_); focus rfl)
        | ((with_reducible refine e_p ?_ (mp2 h) ?_); focus rfl)
        | ((with_reducible refine e_p ?_ (mp3 h) ?_); focus rfl)
        | ((with_reducible refine e_p ?_ (mp4 h) ?_); focus rfl)
        | ((with_reducible refine e_p ?_ (mp5 h) ?_); focus rfl)
        | ((with_reducible refine e_p ?_ (mp6 h) ?_); focus rfl)
        | ((with_reducible refine e_p ?_ (mp7 h) ?_); focus rfl)
        | ((with_reducible refine e_p ?_ (mp8 h) ?_); focus rfl)
        | ((with_reducible refine e_p ?_ (mp9 h) ?_); focus rfl)
        | ((with_reducible refine e_p ?_ (mp10 h) ?_); focus rfl)
        | ((with_reducible refine e_p ?_ (mp11 h) ?_); focus rfl)
        | ((with_reducible refine e_p ?_ (mp12 h) ?_); focus rfl)
        | ((with_reducible refine e_p ?_ (mp13 h) ?_); focus rfl)
        | ((with_reducible refine e_p ?_ (mp14 h) ?_); focus rfl)
        | ((with_reducible refine e_p ?_ (mp15 h) ?_); focus rfl)
        | ((with_reducible refine e_p ?_ (mp16 h) ?_); focus rfl)
        | ((with_reducible refine e_p ?_ (mp17 h) ?_); focus rfl)
        | ((with_reducible refine e_p ?_ (mp18 h) ?_); focus rfl)
        | ((with_reducible refine e_p ?_ (mp19 h) ?_); focus rfl)
        | ((with_reducible refine e_p ?_ (mp20 h) ?_); focus rfl)
        | ((with_reducible refine e_p ?_ (mp21 h) ?_); focus rfl)
        | ((with_reducible refine e_ip ?_ ?_); focus (simp (disch := omega) only [b_all, sV_all, ↓reduceIte, Nat.reduceEqDiff, Nat.reduceLT, Nat.reduceLeDiff, Nat.reduceAdd, Nat.reduceMul, Nat.reduceSub, i_lit, eq_self, and_true, true_and, and_self, not_true_eq_false, not_false_eq_true, or_true, true_or, or_false, false_or, false_and, and_false, reduceCtorEq, Nat.add_left_cancel_iff, Nat.add_zero, Nat.zero_add, md_all h]; done))
        | ((with_reducible refine e_in ?_ ?_); focus (simp (disch := omega) only [b_all, sV_all, ↓reduceIte, Nat.reduceEqDiff, Nat.reduceLT, Nat.reduceLeDiff, Nat.reduceAdd, Nat.reduceMul, Nat.reduceSub, i_lit, eq_self, and_true, true_and, and_self, not_true_eq_false, not_false_eq_true, or_true, true_or, or_false, false_or, false_and, and_false, reduceCtorEq, Nat.add_left_cancel_iff, Nat.add_zero, Nat.zero_add, md_all h]; done))
        | unfold fX5_total_133
        | fail)
      first | with_reducible rfl | simp (disch := omega) only [b_all, sV_all, ↓reduceIte, Nat.reduceEqDiff, Nat.reduceLT, Nat.reduceLeDiff, Nat.reduceAdd, Nat.reduceMul, Nat.reduceSub, i_lit, eq_self, and_true, true_and, and_self, not_true_eq_false, not_false_eq_true, or_true, true_or, or_false, false_or, false_and, and_false, reduceCtorEq, Nat.add_left_cancel_iff, Nat.add_zero, Nat.zero_add, md_all h]
    · have e := ih (j + 1) (by omega) (by omega)
      rw [← e, fX5_total_97, ct]
      have h2 : W 2 j < 2 := hb.r (by omega) _
      by_cases c : W 2 j = 0
      · rw [bp_t c]
        repeat (first
          | (with_reducible refine e_l1 ?_)
          | ((with_reducible refine e_k ?_ (mkM h) ?_); focus rfl)
          | ((with_reducible refine e_p ?_ (mp1 h) ?_); focus rfl)
          | ((with_reducible refine e_p ?_ (mp2 h) ?_); focus rfl)
          | ((with_reducible refine e_p ?_ (mp3 h) ?_); focus rfl)
          | ((with_reducible refine e_p ?_ (mp4 h) ?_); focus rfl)
          | ((with_reducible refine e_p ?_ (mp5 h) ?_); focus rfl)
          | ((with_reducible refine e_p ?_ (mp6 h) ?_); focus rfl)
          | ((with_reducible refine e_p ?_ (mp7 h) ?_); focus rfl)
          | ((with_reducible refine e_p ?_ (mp8 h) ?_); focus rfl)
          | ((with_reducible refine e_p ?_ (mp9 h) ?_); focus rfl)
          | ((with_reducible refine e_p ?_ (mp10 h) ?_); focus rfl)
          | ((with_reducible refine e_p ?_ (mp11 h) ?_); focus rfl)
          | ((with_reducible refine e_p ?_ (mp12 h) ?_); focus rfl)
          | ((with_reducible refine e_p ?_ (mp13 h) ?_); focus rfl)
          | ((with_reducible refine e_p ?_ (mp14 h) ?_); focus rfl)
          | ((with_reducible refine e_p ?_ (mp15 h) ?_); focus rfl)
          | ((with_reducible refine e_p ?_ (mp16 h) ?_); focus rfl)
          | ((with_reducible refine e_p ?_ (mp17 h) ?_); focus rfl)
          | ((with_reducible refine e_p ?_ (mp18 h) ?_); focus rfl)
          | ((with_reducible refine e_p ?_ (mp19 h) ?_); focus rfl)
          | ((with_reducible refine e_p ?_ (mp20 h) ?_); focus rfl)
          | ((with_reducible refine e_p ?_ (mp21 h) ?_); focus rfl)
          | ((with_reducible refine e_ip ?_ ?_); focus (simp (disch := omega) only [b_all, sV_all, ↓reduceIte, Nat.reduceEqDiff, Nat.reduceLT, Nat.reduceLeDiff, Nat.reduceAdd, Nat.reduceMul, Nat.reduceSub, i_lit, eq_self, and_true, true_and, and_self, not_true_eq_false, not_false_eq_true, or_true, true_or, or_false, false_or, false_and, and_false, reduceCtorEq, Nat.add_left_cancel_iff, Nat.add_zero, Nat.zero_add, md_all h]; done))
          | ((with_reducible refine e_in ?_ ?_); focus (simp (disch := omega) only [b_all, sV_all, ↓reduceIte, Nat.reduceEqDiff, Nat.reduceLT, Nat.reduceLeDiff, Nat.reduceAdd, Nat.reduceMul, Nat.reduceSub, i_lit, eq_self, and_true, true_and, and_self, not_true_eq_false, not_false_eq_true, or_true, true_or, or_false, false_or, false_and, and_false, reduceCtorEq, Nat.add_left_cancel_iff, Nat.add_zero, Nat.zero_add, md_all h]; done))
          | unfold fX5_total_125
          | fail)
        first | with_reducible rfl | simp (disch := omega) only [b_all, sV_all, ↓reduceIte, Nat.reduceEqDiff, Nat.reduceLT, Nat.reduceLeDiff, Nat.reduceAdd, Nat.reduceMul, Nat.reduceSub, i_lit, eq_self, and_true, true_and, and_self, not_true_eq_false, not_false_eq_true, or_true, true_or, or_false, false_or, false_and, and_false, reduceCtorEq, Nat.add_left_cancel_iff, Nat.add_zero, Nat.zero_add, md_all h]
      · rw [bp_f c]
        repeat (first
          | (with_reducible refine e_l1 ?_)
          | ((with_reducible refine e_k ?_ (mkM h) ?_); focus rfl)
          | ((with_reducible refine e_p ?_ (mp1 h) ?_); focus rfl)
          | ((with_reducible refine e_p ?_ (mp2 h) ?_); focus rfl)
          | ((with_reducible refine e_p ?_ (mp3 h) ?_); focus rfl)
          | ((with_reducible refine e_p ?_ (mp4 h) ?_); focus rfl)
          | ((with_reducible refine e_p ?_ (mp5 h) ?_); focus rfl)
          | ((with_reducible refine e_p ?_ (mp6 h) ?_); focus rfl)
          | ((with_reducible refine e_p ?_ (mp7 h) ?_); focus rfl)
          | ((with_reducible refine e_p ?_ (mp8 h) ?_); focus rfl)
          | ((with_reducible refine e_p ?_ (mp9 h) ?_); focus rfl)
          | ((with_reducible refine e_p ?_ (mp10 h) ?_); focus rfl)
          | ((with_reducible refine e_p ?_ (mp11 h) ?_); focus rfl)
          | ((with_reducible refine e_p ?_ (mp12 h) ?_); focus rfl)
          | ((with_reducible refine e_p ?_ (mp13 h) ?_); focus rfl)
          | ((with_reducible refine e_p ?_ (mp14 h) ?_); focus rfl)
          | ((with_reducible refine e_p ?_ (mp15 h) ?_); focus rfl)
          | ((with_reducible refine e_p ?_ (mp16 h) ?_); focus rfl)
          | ((with_reducible refine e_p ?_ (mp17 h) ?_); focus rfl)
          | ((with_reducible refine e_p ?_ (mp18 h) ?_); focus rfl)
          | ((with_reducible refine e_p ?_ (mp19 h) ?_); focus rfl)
          | ((with_reducible refine e_p ?_ (mp20 h) ?_); focus rfl)
          | ((with_reducible refine e_p ?_ (mp21 h) ?_); focus rfl)
          | ((with_reducible refine e_ip ?_ ?_); focus (simp (disch := omega) only [b_all, sV_all, ↓reduceIte, Nat.reduceEqDiff, Nat.reduceLT, Nat.reduceLeDiff, Nat.reduceAdd, Nat.reduceMul, Nat.reduceSub, i_lit, eq_self, and_true, true_and, and_self, not_true_eq_false, not_false_eq_true, or_true, true_or, or_false, false_or, false_and, and_false, reduceCtorEq, Nat.add_left_cancel_iff, Nat.add_zero, Nat.zero_add, md_all h]; done))
          | ((with_reducible refine e_in ?_ ?_); focus (simp (disch := omega) only [b_all, sV_all, ↓reduceIte, Nat.reduceEqDiff, Nat.reduceLT, Nat.reduceLeDiff, Nat.reduceAdd, Nat.reduceMul, Nat.reduceSub, i_lit, eq_self, and_true, true_and, and_self, not_true_eq_false, not_false_eq_true, or_true, true_or, or_false, false_or, false_and, and_false, reduceCtorEq, Nat.add_left_cancel_iff, Nat.add_zero, Nat.zero_add, md_all h]; done))
          | unfold fX5_total_125
          | fail)
        first | with_reducible rfl | simp (disch := omega) only [b_all, sV_all, ↓reduceIte, Nat.reduceEqDiff, Nat.reduceLT, Nat.reduceLeDiff, Nat.reduceAdd, Nat.reduceMul, Nat.reduceSub, i_lit, eq_self, and_true, true_and, and_self, not_true_eq_false, not_false_eq_true, or_true, true_or, or_false, false_or, false_and, and_false, reduceCtorEq, Nat.add_left_cancel_iff, Nat.add_zero, Nat.zero_add, md_all h]
theorem s_total57 (hk : 5000 ≤ k) (h : St x B C W M) (hb : Bd W) : ∀ n j, j ≤ 5 * W 0 5 → 5 * W 0 5 < n + j → fX5_total_57 x k n (B + 25) (i32 3) (i32 (ct (fun s => W 9 s ≠ 0) j)) (i32 j) M = some (i32 (ct (fun s => W 9 s ≠ 0) (5 * W 0 5)), M) := by
  have h0 := hb.1
  intro n
  induction n with
  | zero => intro u h1 h2; omega
  | succ n ih =>
    intro j hj hn
    by_cases hc : 5 * W 0 5 ≤ j
    · obtain rfl : j = 5 * W 0 5 := by omega
      obtain ⟨k', rfl⟩ : ∃ k', k = k' + 1 := ⟨k - 1, by omega⟩
      rw [fX5_total_57]
      repeat (first
        | (with_reducible refine e_l1 ?_)
        | ((with_reducible refine e_k ?_ (mkM h) ?_); focus rfl)
        | ((with_reducible refine e_p ?_ (mp1 h) ?_); focus rfl)
        | ((with_reducible refine e_p ?_ (mp2 h) ?_); focus rfl)
        | ((with_reducible refine e_p ?_ (mp3 h) ?_); focus rfl)
        | ((with_reducible refine e_p ?_ (mp4 h) ?_); focus rfl)
        | ((with_reducible refine e_p ?_ (mp5 h) ?_); focus rfl)
        | ((with_reducible refine e_p ?_ (mp6 h) ?_); focus rfl)
        | ((with_reducible refine e_p ?_ (mp7 h) ?_); focus rfl)
        | ((with_reducible refine e_p ?_ (mp8 h) ?_); focus rfl)
        | ((with_reducible refine e_p ?_ (mp9 h) ?_); focus rfl)
        | ((with_reducible refine e_p ?_ (mp10 h) ?_); focus rfl)
        | ((with_reducible refine e_p ?_ (mp11 h) ?_); focus rfl)
        | ((with_reducible refine e_p ?_ (mp12 h) ?_); focus rfl)
        | ((with_reducible refine e_p ?_ (mp13 h) ?_); focus rfl)
        | ((with_reducible refine e_p ?_ (mp14 h) ?_); focus rfl)
        | ((with_reducible refine e_p ?_ (mp15 h) ?_); focus rfl)
        | ((with_reducible refine e_p ?_ (mp16 h) ?_); focus rfl)
        | ((with_reducible refine e_p ?_ (mp17 h) ?_); focus rfl)
        | ((with_reducible refine e_p ?_ (mp18 h) ?_); focus rfl)
        | ((with_reducible refine e_p ?_ (mp19 h) ?_); focus rfl)
        | ((with_reducible refine e_p ?_ (mp20 h) ?_); focus rfl)
        | ((with_reducible refine e_p ?_ (mp21 h) ?_); focus rfl)
        | ((with_reducible refine e_ip ?_ ?_); focus (simp (disch := omega) only [b_all, sV_all, ↓reduceIte, Nat.reduceEqDiff, Nat.reduceLT, Nat.reduceLeDiff, Nat.reduceAdd, Nat.reduceMul, Nat.reduceSub, i_lit, eq_self, and_true, true_and, and_self, not_true_eq_false, not_false_eq_true, or_true, true_or, or_false, false_or, false_and, and_false, reduceCtorEq, Nat.add_left_cancel_iff, Nat.add_zero, Nat.zero_add, md_all h]; done))
        | ((with_reducible refine e_in ?_ ?_); focus (simp (disch := omega) only [b_all, sV_all, ↓reduceIte, Nat.reduceEqDiff, Nat.reduceLT, Nat.reduceLeDiff, Nat.reduceAdd, Nat.reduceMul, Nat.reduceSub, i_lit, eq_self, and_true, true_and, and_self, not_true_eq_false, not_false_eq_true, or_true, true_or, or_false, false_or, false_and, and_false, reduceCtorEq, Nat.add_left_cancel_iff, Nat.add_zero, Nat.zero_add, md_all h]; done))
        | unfold fX5_total_95
        | fail)
      rw [fX5_total_97]
      repeat (first
        | (with_reducible refine e_l1 ?_)
        | ((with_reducible refine e_k ?_ (mkM h) ?_); focus rfl)
        | ((with_reducible refine e_p ?_ (mp1 h) ?_); focus rfl)
        | ((with_reducible refine e_p ?_ (mp2 h) ?_); focus rfl)
        | ((with_reducible refine e_p ?_ (mp3 h) ?_); focus rfl)
        | ((with_reducible refine e_p ?_ (mp4 h) ?_); focus rfl)
        | ((with_reducible refine e_p ?_ (mp5 h) ?_); focus rfl)
        | ((with_reducible refine e_p ?_ (mp6 h) ?_); focus rfl)
        | ((with_reducible refine e_p ?_ (mp7 h) ?_); focus rfl)
        | ((with_reducible refine e_p ?_ (mp8 h) ?_); focus rfl)
        | ((with_reducible refine e_p ?_ (mp9 h) ?_); focus rfl)
        | ((with_reducible refine e_p ?_ (mp10 h) ?_); focus rfl)
        | ((with_reducible refine e_p ?_ (mp11 h) ?_); focus rfl)
        | ((with_reducible refine e_p ?_ (mp12 h) ?_); focus rfl)
        | ((with_reducible refine e_p ?_ (mp13 h) ?_); focus rfl)
        | ((with_reducible refine e_p ?_ (mp14 h) ?_); focus rfl)
        | ((with_reducible refine e_p ?_ (mp15 h) ?_); focus rfl)
        | ((with_reducible refine e_p ?_ (mp16 h) ?_); focus rfl)
        | ((with_reducible refine e_p ?_ (mp17 h) ?_); focus rfl)
        | ((with_reducible refine e_p ?_ (mp18 h) ?_); focus rfl)
        | ((with_reducible refine e_p ?_ (mp19 h) ?_); focus rfl)
        | ((with_reducible refine e_p ?_ (mp20 h) ?_); focus rfl)
        | ((with_reducible refine e_p ?_ (mp21 h) ?_); focus rfl)
        | ((with_reducible refine e_ip ?_ ?_); focus (simp (disch := omega) only [b_all, sV_all, ↓reduceIte, Nat.reduceEqDiff, Nat.reduceLT, Nat.reduceLeDiff, Nat.reduceAdd, Nat.reduceMul, Nat.reduceSub, i_lit, eq_self, and_true, true_and, and_self, not_true_eq_false, not_false_eq_true, or_true, true_or, or_false, false_or, false_and, and_false, reduceCtorEq, Nat.add_left_cancel_iff, Nat.add_zero, Nat.zero_add, md_all h]; done))
        | ((with_reducible refine e_in ?_ ?_); focus (simp (disch := omega) only [b_all, sV_all, ↓reduceIte, Nat.reduceEqDiff, Nat.reduceLT, Nat.reduceLeDiff, Nat.reduceAdd, Nat.reduceMul, Nat.reduceSub, i_lit, eq_self, and_true, true_and, and_self, not_true_eq_false, not_false_eq_true, or_true, true_or, or_false, false_or, false_and, and_false, reduceCtorEq, Nat.add_left_cancel_iff, Nat.add_zero, Nat.zero_add, md_all h]; done))
        | unfold fX5_total_133
        | fail)
      first | with_reducible rfl | simp (disch := omega) only [b_all, sV_all, ↓reduceIte, Nat.reduceEqDiff, Nat.reduceLT, Nat.reduceLeDiff, Nat.reduceAdd, Nat.reduceMul, Nat.reduceSub, i_lit, eq_self, and_true, true_and, and_self, not_true_eq_false, not_false_eq_true, or_true, true_or, or_false, false_or, false_and, and_false, reduceCtorEq, Nat.add_left_cancel_iff, Nat.add_zero, Nat.zero_add, md_all h]
    · have e := ih (j + 1) (by omega) (by omega)
      rw [← e, fX5_total_57, ct]
      have h9 : W 9 j < 2 := hb.r (by omega) _
      by_cases c : W 9 j = 0
      · rw [bp_f (fun z => z c)]
        repeat (first
          | (with_reducible refine e_l1 ?_)
          | ((with_reducible refine e_k ?_ (mkM h) ?_); focus rfl)
          | ((with_reducible refine e_p ?_ (mp1 h) ?_); focus rfl)
          | ((with_reducible refine e_p ?_ (mp2 h) ?_); focus rfl)
          | ((with_reducible refine e_p ?_ (mp3 h) ?_); focus rfl)
          | ((with_reducible refine e_p ?_ (mp4 h) ?_); focus rfl)
          | ((with_reducible refine e_p ?_ (mp5 h) ?_); focus rfl)
          | ((with_reducible refine e_p ?_ (mp6 h) ?_); focus rfl)
          | ((with_reducible refine e_p ?_ (mp7 h) ?_); focus rfl)
          | ((with_reducible refine e_p ?_ (mp8 h) ?_); focus rfl)
          | ((with_reducible refine e_p ?_ (mp9 h) ?_); focus rfl)
          | ((with_reducible refine e_p ?_ (mp10 h) ?_); focus rfl)
          | ((with_reducible refine e_p ?_ (mp11 h) ?_); focus rfl)
          | ((with_reducible refine e_p ?_ (mp12 h) ?_); focus rfl)
          | ((with_reducible refine e_p ?_ (mp13 h) ?_); focus rfl)
          | ((with_reducible refine e_p ?_ (mp14 h) ?_); focus rfl)
          | ((with_reducible refine e_p ?_ (mp15 h) ?_); focus rfl)
          | ((with_reducible refine e_p ?_ (mp16 h) ?_); focus rfl)
          | ((with_reducible refine e_p ?_ (mp17 h) ?_); focus rfl)
          | ((with_reducible refine e_p ?_ (mp18 h) ?_); focus rfl)
          | ((with_reducible refine e_p ?_ (mp19 h) ?_); focus rfl)
          | ((with_reducible refine e_p ?_ (mp20 h) ?_); focus rfl)
          | ((with_reducible refine e_p ?_ (mp21 h) ?_); focus rfl)
          | ((with_reducible refine e_ip ?_ ?_); focus (simp (disch := omega) only [b_all, sV_all, ↓reduceIte, Nat.reduceEqDiff, Nat.reduceLT, Nat.reduceLeDiff, Nat.reduceAdd, Nat.reduceMul, Nat.reduceSub, i_lit, eq_self, and_true, true_and, and_self, not_true_eq_false, not_false_eq_true, or_true, true_or, or_false, false_or, false_and, and_false, reduceCtorEq, Nat.add_left_cancel_iff, Nat.add_zero, Nat.zero_add, md_all h]; done))
          | ((with_reducible refine e_in ?_ ?_); focus (simp (disch := omega) only [b_all, sV_all, ↓reduceIte, Nat.reduceEqDiff, Nat.reduceLT, Nat.reduceLeDiff, Nat.reduceAdd, Nat.reduceMul, Nat.reduceSub, i_lit, eq_self, and_true, true_and, and_self, not_true_eq_false, not_false_eq_true, or_true, true_or, or_false, false_or, false_and, and_false, reduceCtorEq, Nat.add_left_cancel_iff, Nat.add_zero, Nat.zero_add, md_all h]; done))
          | unfold fX5_total_87
          | fail)
        first | with_reducible rfl | simp (disch := omega) only [b_all, sV_all, ↓reduceIte, Nat.reduceEqDiff, Nat.reduceLT, Nat.reduceLeDiff, Nat.reduceAdd, Nat.reduceMul, Nat.reduceSub, i_lit, eq_self, and_true, true_and, and_self, not_true_eq_false, not_false_eq_true, or_true, true_or, or_false, false_or, false_and, and_false, reduceCtorEq, Nat.add_left_cancel_iff, Nat.add_zero, Nat.zero_add, md_all h]
      · rw [bp_t (P := W 9 j ≠ 0) c]
        repeat (first
          | (with_reducible refine e_l1 ?_)
          | ((with_reducible refine e_k ?_ (mkM h) ?_); focus rfl)
          | ((with_reducible refine e_p ?_ (mp1 h) ?_); focus rfl)
          | ((with_reducible refine e_p ?_ (mp2 h) ?_); focus rfl)
          | ((with_reducible refine e_p ?_ (mp3 h) ?_); focus rfl)
          | ((with_reducible refine e_p ?_ (mp4 h) ?_); focus rfl)
          | ((with_reducible refine e_p ?_ (mp5 h) ?_); focus rfl)
          | ((with_reducible refine e_p ?_ (mp6 h) ?_); focus rfl)
          | ((with_reducible refine e_p ?_ (mp7 h) ?_); focus rfl)
          | ((with_reducible refine e_p ?_ (mp8 h) ?_); focus rfl)
          | ((with_reducible refine e_p ?_ (mp9 h) ?_); focus rfl)
          | ((with_reducible refine e_p ?_ (mp10 h) ?_); focus rfl)
          | ((with_reducible refine e_p ?_ (mp11 h) ?_); focus rfl)
          | ((with_reducible refine e_p ?_ (mp12 h) ?_); focus rfl)
          | ((with_reducible refine e_p ?_ (mp13 h) ?_); focus rfl)
          | ((with_reducible refine e_p ?_ (mp14 h) ?_); focus rfl)
          | ((with_reducible refine e_p ?_ (mp15 h) ?_); focus rfl)
          | ((with_reducible refine e_p ?_ (mp16 h) ?_); focus rfl)
          | ((with_reducible refine e_p ?_ (mp17 h) ?_); focus rfl)
          | ((with_reducible refine e_p ?_ (mp18 h) ?_); focus rfl)
          | ((with_reducible refine e_p ?_ (mp19 h) ?_); focus rfl)
          | ((with_reducible refine e_p ?_ (mp20 h) ?_); focus rfl)
          | ((with_reducible refine e_p ?_ (mp21 h) ?_); focus rfl)
          | ((with_reducible refine e_ip ?_ ?_); focus (simp (disch := omega) only [b_all, sV_all, ↓reduceIte, Nat.reduceEqDiff, Nat.reduceLT, Nat.reduceLeDiff, Nat.reduceAdd, Nat.reduceMul, Nat.reduceSub, i_lit, eq_self, and_true, true_and, and_self, not_true_eq_false, not_false_eq_true, or_true, true_or, or_false, false_or, false_and, and_false, reduceCtorEq, Nat.add_left_cancel_iff, Nat.add_zero, Nat.zero_add, md_all h]; done))
          | ((with_reducible refine e_in ?_ ?_); focus (simp (disch := omega) only [b_all, sV_all, ↓reduceIte, Nat.reduceEqDiff, Nat.reduceLT, Nat.reduceLeDiff, Nat.reduceAdd, Nat.reduceMul, Nat.reduceSub, i_lit, eq_self, and_true, true_and, and_self, not_true_eq_false, not_false_eq_true, or_true, true_or, or_false, false_or, false_and, and_false, reduceCtorEq, Nat.add_left_cancel_iff, Nat.add_zero, Nat.zero_add, md_all h]; done))
          | unfold fX5_total_87
          | fail)
        first | with_reducible rfl | simp (disch := omega) only [b_all, sV_all, ↓reduceIte, Nat.reduceEqDiff, Nat.reduceLT, Nat.reduceLeDiff, Nat.reduceAdd, Nat.reduceMul, Nat.reduceSub, i_lit, eq_self, and_true, true_and, and_self, not_true_eq_false, not_false_eq_true, or_true, true_or, or_false, false_or, false_and, and_false, reduceCtorEq, Nat.add_left_cancel_iff, Nat.add_zero, Nat.zero_add, md_all h]
theorem m_total_ok (hk : 5000 ≤ k) (h : St x B C W M) (hb : Bd W) {w : Nat} (hw : w ≤ 4) : ∃ M', fX5_total x k (B + 25) (i32 w) M = some (i32 (if w = 0 then W 0 5 else if w = 1 then W 0 23 else if w = 2 then W 0 24 else if w = 3 then ct (fun s => W 9 s ≠ 0) (5 * W 0 5) else ct (fun s => W 2 s = 0) (W 0 0)), M') ∧ St x B C (t0 W) M' := by
  have h0 := hb.1
  have f0 := s_fails0 (k := k) h 1
  have hh : St x B C (t0 W) _ := su0 h 27 0
  refine ⟨_, ?_, hh⟩
  by_cases c0 : w = 0
  · rw [if_pos c0]
    unfold fX5_total
    repeat (first
      | (with_reducible refine e_l1 ?_)
      | ((with_reducible refine e_k ?_ (mkM h) ?_); focus rfl)
      | ((with_reducible refine e_p ?_ (mp1 h) ?_); focus rfl)
      | ((with_reducible refine e_p ?_ (mp2 h) ?_); focus rfl)
      | ((with_reducible refine e_p ?_ (mp3 h) ?_); focus rfl)
      | ((with_reducible refine e_p ?_ (mp4 h) ?_); focus rfl)
      | ((with_reducible refine e_p ?_ (mp5 h) ?_); focus rfl)
      | ((with_reducible refine e_p ?_ (mp6 h) ?_); focus rfl)
      | ((with_reducible refine e_p ?_ (mp7 h) ?_); focus rfl)
      | ((with_reducible refine e_p ?_ (mp8 h) ?_); focus rfl)
      | ((with_reducible refine e_p ?_ (mp9 h) ?_); focus rfl)
      | ((with_reducible refine e_p ?_ (mp10 h) ?_); focus rfl)
      | ((with_reducible refine e_p ?_ (mp11 h) ?_); focus rfl)
      | ((with_reducible refine e_p ?_ (mp12 h) ?_); focus rfl)
      | ((with_reducible refine e_p ?_ (mp13 h) ?_); focus rfl)
      | ((with_reducible refine e_p ?_ (mp14 h) ?_); focus rfl)
      | ((with_reducible refine e_p ?_ (mp15 h) ?_); focus rfl)
      | ((with_reducible refine e_p ?_ (mp16 h) ?_); focus rfl)
      | ((with_reducible refine e_p ?_ (mp17 h) ?_); focus rfl)
      | ((with_reducible refine e_p ?_ (mp18 h) ?_); focus rfl)
      | ((with_reducible refine e_p ?_ (mp19 h) ?_); focus rfl)
      | ((with_reducible refine e_p ?_ (mp20 h) ?_); focus rfl)
      | ((with_reducible refine e_p ?_ (mp21 h) ?_); focus rfl)
      | ((with_reducible refine e_o2 ?_ f0 ?_); focus (first | with_reducible rfl | (simp (disch := omega) only [b_all, sV_all, ↓reduceIte, Nat.reduceEqDiff, Nat.reduceLT, Nat.reduceLeDiff, Nat.reduceAdd, Nat.reduceMul, Nat.reduceSub, i_lit, eq_self, and_true, true_and, and_self, not_true_eq_false, not_false_eq_true, or_true, true_or, or_false, false_or, false_and, and_false, reduceCtorEq, Nat.add_left_cancel_iff, Nat.add_zero, Nat.zero_add, md_all h, c0]; done)))
      | ((with_reducible refine e_ip ?_ ?_); focus (simp (disch := omega) only [b_all, sV_all, ↓reduceIte, Nat.reduceEqDiff, Nat.reduceLT, Nat.reduceLeDiff, Nat.reduceAdd, Nat.reduceMul, Nat.reduceSub, i_lit, eq_self, and_true, true_and, and_self, not_true_eq_false, not_false_eq_true, or_true, true_or, or_false, false_or, false_and, and_false, reduceCtorEq, Nat.add_left_cancel_iff, Nat.add_zero, Nat.zero_add, md_all h, c0]; done))
      | ((with_reducible refine e_in ?_ ?_); focus (simp (disch := omega) only [b_all, sV_all, ↓reduceIte, Nat.reduceEqDiff, Nat.reduceLT, Nat.reduceLeDiff, Nat.reduceAdd, Nat.reduceMul, Nat.reduceSub, i_lit, eq_self, and_true, true_and, and_self, not_true_eq_false, not_false_eq_true, or_true, true_or, or_false, false_or, false_and, and_false, reduceCtorEq, Nat.add_left_cancel_iff, Nat.add_zero, Nat.zero_add, md_all h, c0]; done))
      | unfold fX5_total_15
      | fail)
    first | with_reducible rfl | simp (disch := omega) only [b_all, sV_all, ↓reduceIte, Nat.reduceEqDiff, Nat.reduceLT, Nat.reduceLeDiff, Nat.reduceAdd, Nat.reduceMul, Nat.reduceSub, i_lit, eq_self, and_true, true_and, and_self, not_true_eq_false, not_false_eq_true, or_true, true_or, or_false, false_or, false_and, and_false, reduceCtorEq, Nat.add_left_cancel_iff, Nat.add_zero, Nat.zero_add, md_all h, c0]
  · by_cases c1 : w = 1
    · rw [if_neg c0, if_pos c1]
      unfold fX5_total
      repeat (first
        | (with_reducible refine e_l1 ?_)
        | ((with_reducible refine e_k ?_ (mkM h) ?_); focus rfl)
        | ((with_reducible refine e_p ?_ (mp1 h) ?_); focus rfl)
        | ((with_reducible refine e_p ?_ (mp2 h) ?_); focus rfl)
        | ((with_reducible refine e_p ?_ (mp3 h) ?_); focus rfl)
        | ((with_reducible refine e_p ?_ (mp4 h) ?_); focus rfl)
        | ((with_reducible refine e_p ?_ (mp5 h) ?_); focus rfl)
        | ((with_reducible refine e_p ?_ (mp6 h) ?_); focus rfl)
        | ((with_reducible refine e_p ?_ (mp7 h) ?_); focus rfl)
        | ((with_reducible refine e_p ?_ (mp8 h) ?_); focus rfl)
        | ((with_reducible refine e_p ?_ (mp9 h) ?_); focus rfl)
        | ((with_reducible refine e_p ?_ (mp10 h) ?_); focus rfl)
        | ((with_reducible refine e_p ?_ (mp11 h) ?_); focus rfl)
        | ((with_reducible refine e_p ?_ (mp12 h) ?_); focus rfl)
        | ((with_reducible refine e_p ?_ (mp13 h) ?_); focus rfl)
        | ((with_reducible refine e_p ?_ (mp14 h) ?_); focus rfl)
        | ((with_reducible refine e_p ?_ (mp15 h) ?_); focus rfl)
        | ((with_reducible refine e_p ?_ (mp16 h) ?_); focus rfl)
        | ((with_reducible refine e_p ?_ (mp17 h) ?_); focus rfl)
        | ((with_reducible refine e_p ?_ (mp18 h) ?_); focus rfl)
        | ((with_reducible refine e_p ?_ (mp19 h) ?_); focus rfl)
        | ((with_reducible refine e_p ?_ (mp20 h) ?_); focus rfl)
        | ((with_reducible refine e_p ?_ (mp21 h) ?_); focus rfl)
        | ((with_reducible refine e_o2 ?_ f0 ?_); focus (first | with_reducible rfl | (simp (disch := omega) only [b_all, sV_all, ↓reduceIte, Nat.reduceEqDiff, Nat.reduceLT, Nat.reduceLeDiff, Nat.reduceAdd, Nat.reduceMul, Nat.reduceSub, i_lit, eq_self, and_true, true_and, and_self, not_true_eq_false, not_false_eq_true, or_true, true_or, or_false, false_or, false_and, and_false, reduceCtorEq, Nat.add_left_cancel_iff, Nat.add_zero, Nat.zero_add, md_all h, c1]; done)))
        | ((with_reducible refine e_ip ?_ ?_); focus (simp (disch := omega) only [b_all, sV_all, ↓reduceIte, Nat.reduceEqDiff, Nat.reduceLT, Nat.reduceLeDiff, Nat.reduceAdd, Nat.reduceMul, Nat.reduceSub, i_lit, eq_self, and_true, true_and, and_self, not_true_eq_false, not_false_eq_true, or_true, true_or, or_false, false_or, false_and, and_false, reduceCtorEq, Nat.add_left_cancel_iff, Nat.add_zero, Nat.zero_add, md_all h, c1]; done))
        | ((with_reducible refine e_in ?_ ?_); focus (simp (disch := omega) only [b_all, sV_all, ↓reduceIte, Nat.reduceEqDiff, Nat.reduceLT, Nat.reduceLeDiff, Nat.reduceAdd, Nat.reduceMul, Nat.reduceSub, i_lit, eq_self, and_true, true_and, and_self, not_true_eq_false, not_false_eq_true, or_true, true_or, or_false, false_or, false_and, and_false, reduceCtorEq, Nat.add_left_cancel_iff, Nat.add_zero, Nat.zero_add, md_all h, c1]; done))
        | unfold fX5_total_15
        | fail)
      first | with_reducible rfl | simp (disch := omega) only [b_all, sV_all, ↓reduceIte, Nat.reduceEqDiff, Nat.reduceLT, Nat.reduceLeDiff, Nat.reduceAdd, Nat.reduceMul, Nat.reduceSub, i_lit, eq_self, and_true, true_and, and_self, not_true_eq_false, not_false_eq_true, or_true, true_or, or_false, false_or, false_and, and_false, reduceCtorEq, Nat.add_left_cancel_iff, Nat.add_zero, Nat.zero_add, md_all h, c1]
    · by_cases c2 : w = 2
      · rw [if_neg c0, if_neg c1, if_pos c2]
        unfold fX5_total
        repeat (first
          | (with_reducible refine e_l1 ?_)
          | ((with_reducible refine e_k ?_ (mkM h) ?_); focus rfl)
          | ((with_reducible refine e_p ?_ (mp1 h) ?_); focus rfl)
          | ((with_reducible refine e_p ?_ (mp2 h) ?_); focus rfl)
          | ((with_reducible refine e_p ?_ (mp3 h) ?_); focus rfl)
          | ((with_reducible refine e_p ?_ (mp4 h) ?_); focus rfl)
          | ((with_reducible refine e_p ?_ (mp5 h) ?_); focus rfl)
          | ((with_reducible refine e_p ?_ (mp6 h) ?_); focus rfl)
          | ((with_reducible refine e_p ?_ (mp7 h) ?_); focus rfl)
          | ((with_reducible refine e_p ?_ (mp8 h) ?_); focus rfl)
          | ((with_reducible refine e_p ?_ (mp9 h) ?_); focus rfl)
          | ((with_reducible refine e_p ?_ (mp10 h) ?_); focus rfl)
          | ((with_reducible refine e_p ?_ (mp11 h) ?_); focus rfl)
          | ((with_reducible refine e_p ?_ (mp12 h) ?_); focus rfl)
          | ((with_reducible refine e_p ?_ (mp13 h) ?_); focus rfl)
          | ((with_reducible refine e_p ?_ (mp14 h) ?_); focus rfl)
          | ((with_reducible refine e_p ?_ (mp15 h) ?_); focus rfl)
          | ((with_reducible refine e_p ?_ (mp16 h) ?_); focus rfl)
          | ((with_reducible refine e_p ?_ (mp17 h) ?_); focus rfl)
          | ((with_reducible refine e_p ?_ (mp18 h) ?_); focus rfl)
          | ((with_reducible refine e_p ?_ (mp19 h) ?_); focus rfl)
          | ((with_reducible refine e_p ?_ (mp20 h) ?_); focus rfl)
          | ((with_reducible refine e_p ?_ (mp21 h) ?_); focus rfl)
          | ((with_reducible refine e_o2 ?_ f0 ?_); focus (first | with_reducible rfl | (simp (disch := omega) only [b_all, sV_all, ↓reduceIte, Nat.reduceEqDiff, Nat.reduceLT, Nat.reduceLeDiff, Nat.reduceAdd, Nat.reduceMul, Nat.reduceSub, i_lit, eq_self, and_true, true_and, and_self, not_true_eq_false, not_false_eq_true, or_true, true_or, or_false, false_or, false_and, and_false, reduceCtorEq, Nat.add_left_cancel_iff, Nat.add_zero, Nat.zero_add, md_all h, c2]; done)))
          | ((with_reducible refine e_ip ?_ ?_); focus (simp (disch := omega) only [b_all, sV_all, ↓reduceIte, Nat.reduceEqDiff, Nat.reduceLT, Nat.reduceLeDiff, Nat.reduceAdd, Nat.reduceMul, Nat.reduceSub, i_lit, eq_self, and_true, true_and, and_self, not_true_eq_false, not_false_eq_true, or_true, true_or, or_false, false_or, false_and, and_false, reduceCtorEq, Nat.add_left_cancel_iff, Nat.add_zero, Nat.zero_add, md_all h, c2]; done))
          | ((with_reducible refine e_in ?_ ?_); focus (simp (disch := omega) only [b_all, sV_all, ↓reduceIte, Nat.reduceEqDiff, Nat.reduceLT, Nat.reduceLeDiff, Nat.reduceAdd, Nat.reduceMul, Nat.reduceSub, i_lit, eq_self, and_true, true_and, and_self, not_true_eq_false, not_false_eq_true, or_true, true_or, or_false, false_or, false_and, and_false, reduceCtorEq, Nat.add_left_cancel_iff, Nat.add_zero, Nat.zero_add, md_all h, c2]; done))
          | unfold fX5_total_15
          | fail)
        first | with_reducible rfl | simp (disch := omega) only [b_all, sV_all, ↓reduceIte, Nat.reduceEqDiff, Nat.reduceLT, Nat.reduceLeDiff, Nat.reduceAdd, Nat.reduceMul, Nat.reduceSub, i_lit, eq_self, and_true, true_and, and_self, not_true_eq_false, not_false_eq_true, or_true, true_or, or_false, false_or, false_and, and_false, reduceCtorEq, Nat.add_left_cancel_iff, Nat.add_zero, Nat.zero_add, md_all h, c2]
      · by_cases c3 : w = 3
        · rw [if_neg c0, if_neg c1, if_neg c2, if_pos c3]
          have e := s_total57 (k := k) hk hh hb.t0 k 0 (Nat.zero_le _) (by show 5 * W 0 5 < k + 0; omega)
          have w00 : t0 W 0 5 = W 0 5 := rfl
          have w9 : t0 W 9 = W 9 := rfl
          rw [w00, w9] at e
          rw [← e]
          unfold fX5_total
          repeat (first
            | (with_reducible refine e_l1 ?_)
            | ((with_reducible refine e_k ?_ (mkM h) ?_); focus rfl)
            | ((with_reducible refine e_p ?_ (mp1 h) ?_); focus rfl)
            | ((with_reducible refine e_p ?_ (mp2 h) ?_); focus rfl)
            | ((with_reducible refine e_p ?_ (mp3 h) ?_); focus rfl)
            | ((with_reducible refine e_p ?_ (mp4 h) ?_); focus rfl)
            | ((with_reducible refine e_p ?_ (mp5 h) ?_); focus rfl)
            | ((with_reducible refine e_p ?_ (mp6 h) ?_); focus rfl)
            | ((with_reducible refine e_p ?_ (mp7 h) ?_); focus rfl)
            | ((with_reducible refine e_p ?_ (mp8 h) ?_); focus rfl)
            | ((with_reducible refine e_p ?_ (mp9 h) ?_); focus rfl)
            | ((with_reducible refine e_p ?_ (mp10 h) ?_); focus rfl)
            | ((with_reducible refine e_p ?_ (mp11 h) ?_); focus rfl)
            | ((with_reducible refine e_p ?_ (mp12 h) ?_); focus rfl)
            | ((with_reducible refine e_p ?_ (mp13 h) ?_); focus rfl)
            | ((with_reducible refine e_p ?_ (mp14 h) ?_); focus rfl)
            | ((with_reducible refine e_p ?_ (mp15 h) ?_); focus rfl)
            | ((with_reducible refine e_p ?_ (mp16 h) ?_); focus rfl)
            | ((with_reducible refine e_p ?_ (mp17 h) ?_); focus rfl)
            | ((with_reducible refine e_p ?_ (mp18 h) ?_); focus rfl)
            | ((with_reducible refine e_p ?_ (mp19 h) ?_); focus rfl)
            | ((with_reducible refine e_p ?_ (mp20 h) ?_); focus rfl)
            | ((with_reducible refine e_p ?_ (mp21 h) ?_); focus rfl)
            | ((with_reducible refine e_o2 ?_ f0 ?_); focus (first | with_reducible rfl | (simp (disch := omega) only [b_all, sV_all, ↓reduceIte, Nat.reduceEqDiff, Nat.reduceLT, Nat.reduceLeDiff, Nat.reduceAdd, Nat.reduceMul, Nat.reduceSub, i_lit, eq_self, and_true, true_and, and_self, not_true_eq_false, not_false_eq_true, or_true, true_or, or_false, false_or, false_and, and_false, reduceCtorEq, Nat.add_left_cancel_iff, Nat.add_zero, Nat.zero_add, md_all h, ct, c3]; done)))
            | ((with_reducible refine e_ip ?_ ?_); focus (simp (disch := omega) only [b_all, sV_all, ↓reduceIte, Nat.reduceEqDiff, Nat.reduceLT, Nat.reduceLeDiff, Nat.reduceAdd, Nat.reduceMul, Nat.reduceSub, i_lit, eq_self, and_true, true_and, and_self, not_true_eq_false, not_false_eq_true, or_true, true_or, or_false, false_or, false_and, and_false, reduceCtorEq, Nat.add_left_cancel_iff, Nat.add_zero, Nat.zero_add, md_all h, ct, c3]; done))
            | ((with_reducible refine e_in ?_ ?_); focus (simp (disch := omega) only [b_all, sV_all, ↓reduceIte, Nat.reduceEqDiff, Nat.reduceLT, Nat.reduceLeDiff, Nat.reduceAdd, Nat.reduceMul, Nat.reduceSub, i_lit, eq_self, and_true, true_and, and_self, not_true_eq_false, not_false_eq_true, or_true, true_or, or_false, false_or, false_and, and_false, reduceCtorEq, Nat.add_left_cancel_iff, Nat.add_zero, Nat.zero_add, md_all h, ct, c3]; done))
            | unfold fX5_total_15
            | fail)
          first | with_reducible rfl | simp (disch := omega) only [b_all, sV_all, ↓reduceIte, Nat.reduceEqDiff, Nat.reduceLT, Nat.reduceLeDiff, Nat.reduceAdd, Nat.reduceMul, Nat.reduceSub, i_lit, eq_self, and_true, true_and, and_self, not_true_eq_false, not_false_eq_true, or_true, true_or, or_false, false_or, false_and, and_false, reduceCtorEq, Nat.add_left_cancel_iff, Nat.add_zero, Nat.zero_add, md_all h, ct, c3]
        · have c4 : w = 4 := by omega
          rw [if_neg c0, if_neg c1, if_neg c2, if_neg c3]
          have e := s_total97 (k := k) hh hb.t0 k 0 (Nat.zero_le _) (by show W 0 0 < k + 0; omega)
          have w00 : t0 W 0 0 = W 0 0 := rfl
          have w2 : t0 W 2 = W 2 := rfl
          rw [w00, w2] at e
          rw [← e]
          obtain ⟨k', hk'⟩ : ∃ k', k = k' + 1 := ⟨k - 1, by omega⟩
          have e57 : fX5_total_57 x k k (B + 25) (i32 4) (i32 0) (i32 0) (sV M (B + 25) 27 (i32 0)) = fX5_total_97 x k k (B + 25) (i32 4) (i32 0) (i32 0) (sV M (B + 25) 27 (i32 0)) := by
            have : ∀ kk, kk = k' + 1 → fX5_total_57 x k kk (B + 25) (i32 4) (i32 0) (i32 0) (sV M (B + 25) 27 (i32 0)) = fX5_total_97 x k k (B + 25) (i32 4) (i32 0) (i32 0) (sV M (B + 25) 27 (i32 0)) := by
              rintro _ rfl
              rw [fX5_total_57]
              by_cases q : W 0 5 = 0
              · repeat (first
                  | (with_reducible refine e_l1 ?_)
                  | ((with_reducible refine e_k ?_ (mkM h) ?_); focus rfl)
                  | ((with_reducible refine e_p ?_ (mp1 h) ?_); focus rfl)
                  | ((with_reducible refine e_p ?_ (mp2 h) ?_); focus rfl)
                  | ((with_reducible refine e_p ?_ (mp3 h) ?_); focus rfl)
                  | ((with_reducible refine e_p ?_ (mp4 h) ?_); focus rfl)
                  | ((with_reducible refine e_p ?_ (mp5 h) ?_); focus rfl)
                  | ((with_reducible refine e_p ?_ (mp6 h) ?_); focus rfl)
                  | ((with_reducible refine e_p ?_ (mp7 h) ?_); focus rfl)
                  | ((with_reducible refine e_p ?_ (mp8 h) ?_); focus rfl)
                  | ((with_reducible refine e_p ?_ (mp9 h) ?_); focus rfl)
                  | ((with_reducible refine e_p ?_ (mp10 h) ?_); focus rfl)
                  | ((with_reducible refine e_p ?_ (mp11 h) ?_); focus rfl)
                  | ((with_reducible refine e_p ?_ (mp12 h) ?_); focus rfl)
                  | ((with_reducible refine e_p ?_ (mp13 h) ?_); focus rfl)
                  | ((with_reducible refine e_p ?_ (mp14 h) ?_); focus rfl)
                  | ((with_reducible refine e_p ?_ (mp15 h) ?_); focus rfl)
                  | ((with_reducible refine e_p ?_ (mp16 h) ?_); focus rfl)
                  | ((with_reducible refine e_p ?_ (mp17 h) ?_); focus rfl)
                  | ((with_reducible refine e_p ?_ (mp18 h) ?_); focus rfl)
                  | ((with_reducible refine e_p ?_ (mp19 h) ?_); focus rfl)
                  | ((with_reducible refine e_p ?_ (mp20 h) ?_); focus rfl)
                  | ((with_reducible refine e_p ?_ (mp21 h) ?_); focus rfl)
                  | ((with_reducible refine e_ip ?_ ?_); focus (simp (disch := omega) only [b_all, sV_all, ↓reduceIte, Nat.reduceEqDiff, Nat.reduceLT, Nat.reduceLeDiff, Nat.reduceAdd, Nat.reduceMul, Nat.reduceSub, i_lit, eq_self, and_true, true_and, and_self, not_true_eq_false, not_false_eq_true, or_true, true_or, or_false, false_or, false_and, and_false, reduceCtorEq, Nat.add_left_cancel_iff, Nat.add_zero, Nat.zero_add, md_all h, q]; done))
                  | ((with_reducible refine e_in ?_ ?_); focus (simp (disch := omega) only [b_all, sV_all, ↓reduceIte, Nat.reduceEqDiff, Nat.reduceLT, Nat.reduceLeDiff, Nat.reduceAdd, Nat.reduceMul, Nat.reduceSub, i_lit, eq_self, and_true, true_and, and_self, not_true_eq_false, not_false_eq_true, or_true, true_or, or_false, false_or, false_and, and_false, reduceCtorEq, Nat.add_left_cancel_iff, Nat.add_zero, Nat.zero_add, md_all h, q]; done))
                  | unfold fX5_total_95
                  | fail)
                first | with_reducible rfl | simp (disch := omega) only [b_all, sV_all, ↓reduceIte, Nat.reduceEqDiff, Nat.reduceLT, Nat.reduceLeDiff, Nat.reduceAdd, Nat.reduceMul, Nat.reduceSub, i_lit, eq_self, and_true, true_and, and_self, not_true_eq_false, not_false_eq_true, or_true, true_or, or_false, false_or, false_and, and_false, reduceCtorEq, Nat.add_left_cancel_iff, Nat.add_zero, Nat.zero_add, md_all h, q]
              · repeat (first
                  | (with_reducible refine e_l1 ?_)
                  | ((with_reducible refine e_k ?_ (mkM h) ?_); focus rfl)
                  | ((with_reducible refine e_p ?_ (mp1 h) ?_); focus rfl)
                  | ((with_reducible refine e_p ?_ (mp2 h) ?_); focus rfl)
                  | ((with_reducible refine e_p ?_ (mp3 h) ?_); focus rfl)
                  | ((with_reducible refine e_p ?_ (mp4 h) ?_); focus rfl)
                  | ((with_reducible refine e_p ?_ (mp5 h) ?_); focus rfl)
                  | ((with_reducible refine e_p ?_ (mp6 h) ?_); focus rfl)
                  | ((with_reducible refine e_p ?_ (mp7 h) ?_); focus rfl)
                  | ((with_reducible refine e_p ?_ (mp8 h) ?_); focus rfl)
                  | ((with_reducible refine e_p ?_ (mp9 h) ?_); focus rfl)
                  | ((with_reducible refine e_p ?_ (mp10 h) ?_); focus rfl)
                  | ((with_reducible refine e_p ?_ (mp11 h) ?_); focus rfl)
                  | ((with_reducible refine e_p ?_ (mp12 h) ?_); focus rfl)
                  | ((with_reducible refine e_p ?_ (mp13 h) ?_); focus rfl)
                  | ((with_reducible refine e_p ?_ (mp14 h) ?_); focus rfl)
                  | ((with_reducible refine e_p ?_ (mp15 h) ?_); focus rfl)
                  | ((with_reducible refine e_p ?_ (mp16 h) ?_); focus rfl)
                  | ((with_reducible refine e_p ?_ (mp17 h) ?_); focus rfl)
                  | ((with_reducible refine e_p ?_ (mp18 h) ?_); focus rfl)
                  | ((with_reducible refine e_p ?_ (mp19 h) ?_); focus rfl)
                  | ((with_reducible refine e_p ?_ (mp20 h) ?_); focus rfl)
                  | ((with_reducible refine e_p ?_ (mp21 h) ?_); focus rfl)
                  | ((with_reducible refine e_ip ?_ ?_); focus (simp (disch := omega) only [b_all, sV_all, ↓reduceIte, Nat.reduceEqDiff, Nat.reduceLT, Nat.reduceLeDiff, Nat.reduceAdd, Nat.reduceMul, Nat.reduceSub, i_lit, eq_self, and_true, true_and, and_self, not_true_eq_false, not_false_eq_true, or_true, true_or, or_false, false_or, false_and, and_false, reduceCtorEq, Nat.add_left_cancel_iff, Nat.add_zero, Nat.zero_add, md_all h]; done))
                  | ((with_reducible refine e_in ?_ ?_); focus (simp (disch := omega) only [b_all, sV_all, ↓reduceIte, Nat.reduceEqDiff, Nat.reduceLT, Nat.reduceLeDiff, Nat.reduceAdd, Nat.reduceMul, Nat.reduceSub, i_lit, eq_self, and_true, true_and, and_self, not_true_eq_false, not_false_eq_true, or_true, true_or, or_false, false_or, false_and, and_false, reduceCtorEq, Nat.add_left_cancel_iff, Nat.add_zero, Nat.zero_add, md_all h]; done))
                  | unfold fX5_total_95
                  | fail)
                first | with_reducible rfl | simp (disch := omega) only [b_all, sV_all, ↓reduceIte, Nat.reduceEqDiff, Nat.reduceLT, Nat.reduceLeDiff, Nat.reduceAdd, Nat.reduceMul, Nat.reduceSub, i_lit, eq_self, and_true, true_and, and_self, not_true_eq_false, not_false_eq_true, or_true, true_or, or_false, false_or, false_and, and_false, reduceCtorEq, Nat.add_left_cancel_iff, Nat.add_zero, Nat.zero_add, md_all h]
            exact this k hk'
          unfold fX5_total
          repeat (first
            | (with_reducible refine e_l1 ?_)
            | ((with_reducible refine e_k ?_ (mkM h) ?_); focus rfl)
            | ((with_reducible refine e_p ?_ (mp1 h) ?_); focus rfl)
            | ((with_reducible refine e_p ?_ (mp2 h) ?_); focus rfl)
            | ((with_reducible refine e_p ?_ (mp3 h) ?_); focus rfl)
            | ((with_reducible refine e_p ?_ (mp4 h) ?_); focus rfl)
            | ((with_reducible refine e_p ?_ (mp5 h) ?_); focus rfl)
            | ((with_reducible refine e_p ?_ (mp6 h) ?_); focus rfl)
            | ((with_reducible refine e_p ?_ (mp7 h) ?_); focus rfl)
            | ((with_reducible refine e_p ?_ (mp8 h) ?_); focus rfl)
            | ((with_reducible refine e_p ?_ (mp9 h) ?_); focus rfl)
            | ((with_reducible refine e_p ?_ (mp10 h) ?_); focus rfl)
            | ((with_reducible refine e_p ?_ (mp11 h) ?_); focus rfl)
            | ((with_reducible refine e_p ?_ (mp12 h) ?_); focus rfl)
            | ((with_reducible refine e_p ?_ (mp13 h) ?_); focus rfl)
            | ((with_reducible refine e_p ?_ (mp14 h) ?_); focus rfl)
            | ((with_reducible refine e_p ?_ (mp15 h) ?_); focus rfl)
            | ((with_reducible refine e_p ?_ (mp16 h) ?_); focus rfl)
            | ((with_reducible refine e_p ?_ (mp17 h) ?_); focus rfl)
            | ((with_reducible refine e_p ?_ (mp18 h) ?_); focus rfl)
            | ((with_reducible refine e_p ?_ (mp19 h) ?_); focus rfl)
            | ((with_reducible refine e_p ?_ (mp20 h) ?_); focus rfl)
            | ((with_reducible refine e_p ?_ (mp21 h) ?_); focus rfl)
            | ((with_reducible refine e_o2 ?_ f0 ?_); focus (first | with_reducible rfl | (simp (disch := omega) only [b_all, sV_all, ↓reduceIte, Nat.reduceEqDiff, Nat.reduceLT, Nat.reduceLeDiff, Nat.reduceAdd, Nat.reduceMul, Nat.reduceSub, i_lit, eq_self, and_true, true_and, and_self, not_true_eq_false, not_false_eq_true, or_true, true_or, or_false, false_or, false_and, and_false, reduceCtorEq, Nat.add_left_cancel_iff, Nat.add_zero, Nat.zero_add, md_all h, ct, c4, e57]; done)))
            | ((with_reducible refine e_ip ?_ ?_); focus (simp (disch := omega) only [b_all, sV_all, ↓reduceIte, Nat.reduceEqDiff, Nat.reduceLT, Nat.reduceLeDiff, Nat.reduceAdd, Nat.reduceMul, Nat.reduceSub, i_lit, eq_self, and_true, true_and, and_self, not_true_eq_false, not_false_eq_true, or_true, true_or, or_false, false_or, false_and, and_false, reduceCtorEq, Nat.add_left_cancel_iff, Nat.add_zero, Nat.zero_add, md_all h, ct, c4, e57]; done))
            | ((with_reducible refine e_in ?_ ?_); focus (simp (disch := omega) only [b_all, sV_all, ↓reduceIte, Nat.reduceEqDiff, Nat.reduceLT, Nat.reduceLeDiff, Nat.reduceAdd, Nat.reduceMul, Nat.reduceSub, i_lit, eq_self, and_true, true_and, and_self, not_true_eq_false, not_false_eq_true, or_true, true_or, or_false, false_or, false_and, and_false, reduceCtorEq, Nat.add_left_cancel_iff, Nat.add_zero, Nat.zero_add, md_all h, ct, c4, e57]; done))
            | unfold fX5_total_15
            | fail)
          first | with_reducible rfl | simp (disch := omega) only [b_all, sV_all, ↓reduceIte, Nat.reduceEqDiff, Nat.reduceLT, Nat.reduceLeDiff, Nat.reduceAdd, Nat.reduceMul, Nat.reduceSub, i_lit, eq_self, and_true, true_and, and_self, not_true_eq_false, not_false_eq_true, or_true, true_or, or_false, false_or, false_and, and_false, reduceCtorEq, Nat.add_left_cancel_iff, Nat.add_zero, Nat.zero_add, md_all h, ct, c4, e57]
end
