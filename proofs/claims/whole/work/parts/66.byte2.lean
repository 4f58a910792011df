/-! Bytes of a letter: the reference spells it -/
def pB (W : Ab) (kd to t o : Nat) : Prop := wr W t o ∧ (kd = 1 → o % W 0 0 = to)
/-- what stands before the check -/
noncomputable def bodyB (W : Ab) (kd to t : Nat) : List Nat :=
  if kd = 1 then stB W t (W 0 0) ++ (ct (pB W kd to t) 20 :: obB W kd t (pB W kd to t) 20)
  else if kd = 5 then stB W t (W 0 0) ++ two (i32 (W 6 t)) ++ (ct (pB W kd to t) 20 :: obB W kd t (pB W kd to t) 20) ++ (bt (i32 (W 17 t)) :: chB W t (W 17 t))
  else []
noncomputable def allB (W : Ab) (kd fr to t : Nat) : List Nat := [bt (i32 kd), bt (i32 fr), bt (i32 to)] ++ two (i32 t) ++ bodyB W kd to t
section
variable {x : Cx} {k B : Nat} {C W W0 : Ab} {M : Mm}
theorem body_l (hb : 2 ≤ W 0 0 ∧ W 0 0 ≤ 5) {kd to t : Nat} (h17 : W 17 t ≤ 20) : (bodyB W kd to t).length ≤ 164 ∧ By (bodyB W kd to t) := by
  have s := stB_l W t (W 0 0)
  have o := obB_l W kd t (pB W kd to t) 20
  have c := chB_l W t (W 17 t)
  have n := ct_le (pB W kd to t) 20
  unfold bodyB
  split
  · refine ⟨?_, s.2.app ((By.one (by omega)).app o.2)⟩
    rw [List.length_append, List.length_cons]; omega
  · split
    · refine ⟨?_, ((s.2.app (two_by _)).app ((By.one (by omega)).app o.2)).app ((By.one (bt_lt _)).app c.2)⟩
      rw [List.length_append, List.length_append, List.length_append, List.length_cons, List.length_cons]
      show _ + 2 + _ + _ ≤ _
      omega
    · exact ⟨Nat.zero_le _, By.nil⟩
theorem s_b331 (hk : 5000 ≤ k) {w : Nat} (hw : w < 4294967296) {W' : Ab} {L : List Nat} (h : St x B C W' M) (g : Pg W W' L) (by' : By L) (hl : L.length < 290) : ∃ W2 M2, fX5_byteOf_331 x k (B + 25) (i32 w) M = some (i32 (fnd (L ++ two (i32 (chk L))) w), M2) ∧ St x B C W2 M2 ∧ Pg W W2 (L ++ two (i32 (chk L))) :=
  s_b337 hw h g by' hl k 0 (by omega) (by omega)
theorem s_b279 (hk : 5000 ≤ k) {w t : Nat} (hw : w < 4294967296) (ht : t < 200) (h17 : W 17 t ≤ 20) (L : List Nat) (by' : By L) (hl : L.length < 240) : ∀ n j W' M, St x B C W' M → Pg W W' (L ++ chB W t j) → j ≤ W 17 t → W 17 t < n + j → ∃ W2 M2, fX5_byteOf_279 x k n (B + 25) (i32 w) (i32 t) (i32 j) M = some (i32 (fnd ((L ++ chB W t (W 17 t)) ++ two (i32 (chk (L ++ chB W t (W 17 t))))) w), M2) ∧ St x B C W2 M2 ∧ Pg W W2 ((L ++ chB W t (W 17 t)) ++ two (i32 (chk (L ++ chB W t (W 17 t))))) := by
  intro n
  induction n with
  | zero => intro j W' M _ _ h1 h2; omega
  | succ n ih =>
    intro j W' M h g hj hn
    have e17 : W' 17 t = W 17 t := g.1 _ _ (by omega) (by omega)
    have hc := chB_l W t j
    by_cases c : W 17 t ≤ j
    · obtain rfl : j = W 17 t := by omega
      obtain ⟨W2, M2, e2, h2, g2⟩ := s_b331 (k := k) hk hw h g (by'.app hc.2) (by rw [List.length_append]; omega)
      refine ⟨W2, M2, ?_, h2, g2⟩
      rw [← e2, fX5_byteOf_279]
      repeat (first
        | (with_reducible refine e_l1 ?_)
        | ((with_reducible refine e_k ?_ (mkM h) ?_); focus rfl)
        | ((with_reducible refine e_p ?_ (mp1 h) ?_); focus rfl)
        | ((with_reducible refine e_p ?_ (mp2 h) ?_); focus rfl)
        | ((with_reducible refine e_p ?_ (mp3 h) ?_); focus rfl)
        | ((with_reducible refine e_p ?_ (mp4 h) ?_); focus rfl)
        | ((with_reducible refine e_p ?_ (mp5 h) ?_); focus rfl)
        | ((with_reducible refine e_p ?_ (mp6 h) ?_); focus rfl)
        | ((with_reducible refine e_p ?_ (mp7 h) ?_); focus rfl)
        | ((with_reducible refine e_p ?_ (mp8 h) ?_); focus rfl)
        | ((with_reducible refine e_p ?_ (mp9 h) ?_); focus rfl)
        | ((with_reducible refine e_p ?_ (mp10 h) ?_); focus rfl)
        | ((with_reducible refine e_p ?_ (mp11 h) ?_); focus rfl)
        | ((with_reducible refine e_p ?_ (mp12 h) ?_); focus rfl)
        | ((with_reducible refine e_p ?_ (mp13 h) ?_); focus rfl)
        | ((with_reducible refine e_p ?_ (mp14 h) ?_); focus rfl)
        | ((with_reducible refine e_p ?_ (mp15 h) ?_); focus rfl)
        | ((with_reducible refine e_p ?_ (mp16 h) ?_); focus rfl)
        | ((with_reducible refine e_p ?_ (mp17 h) ?_); focus rfl)
        | ((with_reducible refine e_p ?_ (mp18 h) ?_); focus rfl)
        | ((with_reducible refine e_p ?_ (mp19 h) ?_); focus rfl)
        | ((with_reducible refine e_p ?_ (mp20 h) ?_); focus rfl)
        | ((with_reducible refine e_p ?_ (mp21 h) ?_); focus rfl)
        | ((with_reducible refine e_ip ?_ ?_); focus (simp (disch := omega) only [b_all, sV_all, ↓reduceIte, Nat.reduceEqDiff, Nat.reduceLT, Nat.reduceLeDiff, Nat.reduceAdd, Nat.reduceMul, Nat.reduceSub, i_lit, eq_self, and_true, true_and, and_self, not_true_eq_false, not_false_eq_true, or_true, true_or, or_false, false_or, false_and, and_false, reduceCtorEq, Nat.add_left_cancel_iff, Nat.add_zero, Nat.zero_add, md_all h, e17]; done))
        | ((with_reducible refine e_in ?_ ?_); focus (simp (disch := omega) only [b_all, sV_all, ↓reduceIte, Nat.reduceEqDiff, Nat.reduceLT, Nat.reduceLeDiff, Nat.reduceAdd, Nat.reduceMul, Nat.reduceSub, i_lit, eq_self, and_true, true_and, and_self, not_true_eq_false, not_false_eq_true, or_true, true_or, or_false, false_or, false_and, and_false, reduceCtorEq, Nat.add_left_cancel_iff, Nat.add_zero, Nat.zero_add, md_all h, e17]; done))
        | fail)
      first | with_reducible rfl | simp (disch := omega) only [b_all, sV_all, ↓reduceIte, Nat.reduceEqDiff, Nat.reduceLT, Nat.reduceLeDiff, Nat.reduceAdd, Nat.reduceMul, Nat.reduceSub, i_lit, eq_self, and_true, true_and, and_self, not_true_eq_false, not_false_eq_true, or_true, true_or, or_false, false_or, false_and, and_false, reduceCtorEq, Nat.add_left_cancel_iff, Nat.add_zero, Nat.zero_add, md_all h, e17]
    · have e15 : W' 15 (20 * t + j) = W 15 (20 * t + j) := g.1 _ _ (by omega) (by omega)
      obtain ⟨W1, M1, e1, h1, g1⟩ := s_put (k := k) h g (by rw [List.length_append]; omega) (i32 (W 15 (20 * t + j)))
      have e16 : W1 16 (20 * t + j) = W 16 (20 * t + j) := g1.1 _ _ (by omega) (by omega)
      obtain ⟨W3, M3, e3, h3, g3⟩ := s_put (k := k) h1 g1 (by rw [List.length_append, List.length_append]; show _ + 1 < 300; omega) (i32 (W 16 (20 * t + j)))
      obtain ⟨W2, M2, e2, h2, g2⟩ := ih (j + 1) W3 M3 h3 (by
        rw [List.append_assoc, List.append_assoc] at g3; exact g3) (by omega) (by omega)
      refine ⟨W2, M2, ?_, h2, g2⟩
      rw [← e2, fX5_byteOf_279]
      repeat (first
        | (with_reducible refine e_l1 ?_)
        | ((with_reducible refine e_k ?_ (mkM h) ?_); focus rfl)
        | ((with_reducible refine e_p ?_ (mp1 h) ?_); focus rfl)
        | ((with_reducible refine e_p ?_ (mp2 h) ?_); focus rfl)
        | ((with_reducible refine e_p ?_ (mp3 h) ?_); focus rfl)
        | ((with_reducible refine e_p ?_ (mp4 h) ?_); focus rfl)
        | ((with_reducible refine e_p ?_ (mp5 h) ?_); focus rfl)
        | ((with_reducible refine e_p ?_ (mp6 h) ?_); focus rfl)
        | ((with_reducible refine e_p ?_ (mp7 h) ?_); focus rfl)
        | ((with_reducible refine e_p ?_ (mp8 h) ?_); focus rfl)
        | ((with_reducible refine e_p ?_ (mp9 h) ?_); focus rfl)
        | ((with_reducible refine e_p ?_ (mp10 h) ?_); focus rfl)
        | ((with_reducible refine e_p ?_ (mp11 h) ?_); focus rfl)
        | ((with_reducible refine e_p ?_ (mp12 h) ?_); focus rfl)
        | ((with_reducible refine e_p ?_ (mp13 h) ?_); focus rfl)
        | ((with_reducible refine e_p ?_ (mp14 h) ?_); focus rfl)
        | ((with_reducible refine e_p ?_ (mp15 h) ?_); focus rfl)
        | ((with_reducible refine e_p ?_ (mp16 h) ?_); focus rfl)
        | ((with_reducible refine e_p ?_ (mp17 h) ?_); focus rfl)
        | ((with_reducible refine e_p ?_ (mp18 h) ?_); focus rfl)
        | ((with_reducible refine e_p ?_ (mp19 h) ?_); focus rfl)
        | ((with_reducible refine e_p ?_ (mp20 h) ?_); focus rfl)
        | ((with_reducible refine e_p ?_ (mp21 h) ?_); focus rfl)
        | ((with_reducible refine e_k ?_ (mkM h1) ?_); focus rfl)
        | ((with_reducible refine e_p ?_ (mp1 h1) ?_); focus rfl)
        | ((with_reducible refine e_p ?_ (mp2 h1) ?_); focus rfl)
        | ((with_reducible refine e_p ?_ (mp3 h1) ?_); focus rfl)
        | ((with_reducible refine e_p ?_ (mp4 h1) ?_); focus rfl)
        | ((with_reducible refine e_p ?_ (mp5 h1) ?_); focus rfl)
        | ((with_reducible refine e_p ?_ (mp6 h1) ?_); focus rfl)
        | ((with_reducible refine e_p ?_ (mp7 h1) ?_); focus rfl)
        | ((with_reducible refine e_p ?_ (mp8 h1) ?_); focus rfl)
        | ((with_reducible refine e_p ?_ (mp9 h1) ?_); focus rfl)
        | ((with_reducible refine e_p ?_ (mp10 h1) ?_); focus rfl)
        | ((with_reducible refine e_p ?_ (mp11 h1) ?_); focus rfl)
        | ((with_reducible refine e_p ?_ (mp12 h1) ?_); focus rfl)
        | ((with_reducible refine e_p ?_ (mp13 h1) ?_); focus rfl)
        | ((with_reducible refine e_p ?_ (mp14 h1) ?_); focus rfl)
        | ((with_reducible refine e_p ?_ (mp15 h1) ?_); focus rfl)
        | ((with_reducible refine e_p ?_ (mp16 h1) ?_); focus rfl)
        | ((with_reducible refine e_p ?_ (mp17 h1) ?_); focus rfl)
        | ((with_reducible refine e_p ?_ (mp18 h1) ?_); focus rfl)
        | ((with_reducible refine e_p ?_ (mp19 h1) ?_); focus rfl)
        | ((with_reducible refine e_p ?_ (mp20 h1) ?_); focus rfl)
        | ((with_reducible refine e_p ?_ (mp21 h1) ?_); focus rfl)
        | ((with_reducible refine e_o2 ?_ e1 ?_); focus (first | with_reducible rfl | (simp (disch := omega) only [b_all, sV_all, ↓reduceIte, Nat.reduceEqDiff, Nat.reduceLT, Nat.reduceLeDiff, Nat.reduceAdd, Nat.reduceMul, Nat.reduceSub, i_lit, eq_self, and_true, true_and, and_self, not_true_eq_false, not_false_eq_true, or_true, true_or, or_false, false_or, false_and, and_false, reduceCtorEq, Nat.add_left_cancel_iff, Nat.add_zero, Nat.zero_add, md_all h, md_all h1, e17, e15, e16]; done)))
        | ((with_reducible refine e_o2 ?_ e3 ?_); focus (first | with_reducible rfl | (simp (disch := omega) only [b_all, sV_all, ↓reduceIte, Nat.reduceEqDiff, Nat.reduceLT, Nat.reduceLeDiff, Nat.reduceAdd, Nat.reduceMul, Nat.reduceSub, i_lit, eq_self, and_true, true_and, and_self, not_true_eq_false, not_false_eq_true, or_true, true_or, or_false, false_or, false_and, and_false, reduceCtorEq, Nat.add_left_cancel_iff, Nat.add_zero, Nat.zero_add, md_all h, md_all h1, e17, e15, e16]; done)))
        | ((with_reducible refine e_ip ?_ ?_); focus (simp (disch := omega) only [b_all, sV_all, ↓reduceIte, Nat.reduceEqDiff, Nat.reduceLT, Nat.reduceLeDiff, Nat.reduceAdd, Nat.reduceMul, Nat.reduceSub, i_lit, eq_self, and_true, true_and, and_self, not_true_eq_false, not_false_eq_true, or_true, true_or, or_false, false_or, false_and, and_false, reduceCtorEq, Nat.add_left_cancel_iff, Nat.add_zero, Nat.zero_add, md_all h, md_all h1, e17, e15, e16]; done))
        | ((with_reducible refine e_in ?_ ?_); focus (simp (disch := omega) only [b_all, sV_all, ↓reduceIte, Nat.reduceEqDiff, Nat.reduceLT, Nat.reduceLeDiff, Nat.reduceAdd, Nat.reduceMul, Nat.reduceSub, i_lit, eq_self, and_true, true_and, and_self, not_true_eq_false, not_false_eq_true, or_true, true_or, or_false, false_or, false_and, and_false, reduceCtorEq, Nat.add_left_cancel_iff, Nat.add_zero, Nat.zero_add, md_all h, md_all h1, e17, e15, e16]; done))
        | fail)
      first | with_reducible rfl | simp (disch := omega) only [b_all, sV_all, ↓reduceIte, Nat.reduceEqDiff, Nat.reduceLT, Nat.reduceLeDiff, Nat.reduceAdd, Nat.reduceMul, Nat.reduceSub, i_lit, eq_self, and_true, true_and, and_self, not_true_eq_false, not_false_eq_true, or_true, true_or, or_false, false_or, false_and, and_false, reduceCtorEq, Nat.add_left_cancel_iff, Nat.add_zero, Nat.zero_add, md_all h, md_all h1, e17, e15, e16]
theorem s_b260 (hk : 5000 ≤ k) {w t kd : Nat} (hw : w < 4294967296) (ht : t < 200) (hkd : kd < 6) (h17 : W 17 t ≤ 20) {W' : Ab} {L : List Nat} (h : St x B C W' M) (g : Pg W W' L) (by' : By L) (hl : L.length < 230) : ∃ W2 M2, fX5_byteOf_260 x k (B + 25) (i32 w) (i32 kd) (i32 t) M = some (i32 (fnd ((L ++ if kd = 5 then bt (i32 (W 17 t)) :: chB W t (W 17 t) else []) ++ two (i32 (chk (L ++ if kd = 5 then bt (i32 (W 17 t)) :: chB W t (W 17 t) else [])))) w), M2) ∧ St x B C W2 M2 ∧ Pg W W2 ((L ++ if kd = 5 then bt (i32 (W 17 t)) :: chB W t (W 17 t) else []) ++ two (i32 (chk (L ++ if kd = 5 then bt (i32 (W 17 t)) :: chB W t (W 17 t) else [])))) := by
  have e17 : W' 17 t = W 17 t := g.1 _ _ (by omega) (by omega)
  by_cases c : kd = 5
  · rw [if_pos c]
    obtain ⟨W1, M1, e1, h1, g1⟩ := s_put (k := k) h g (by omega) (i32 (W 17 t))
    obtain ⟨W2, M2, e2, h2, g2⟩ := s_b279 (k := k) hk hw ht h17 (L ++ [bt (i32 (W 17 t))]) (by'.app (By.one (bt_lt _))) (by rw [List.length_append]; show _ + 1 < 240; omega) k 0 W1 M1 h1 (by rw [show chB W t 0 = [] from rfl, List.append_nil]; exact g1) (by omega) (by omega)
    have ea : L ++ [bt (i32 (W 17 t))] ++ chB W t (W 17 t) = L ++ bt (i32 (W 17 t)) :: chB W t (W 17 t) := by rw [List.append_assoc]; rfl
    rw [ea] at e2 g2
    refine ⟨W2, M2, ?_, h2, g2⟩
    rw [← e2]
    unfold fX5_byteOf_260
    repeat (first
      | (with_reducible refine e_l1 ?_)
      | ((with_reducible refine e_k ?_ (mkM h) ?_); focus rfl)
      | ((with_reducible refine e_p ?_ (mp1 h) ?_); focus rfl)
      | ((with_reducible refine e_p ?_ (mp2 h) ?_); focus rfl)
      | ((with_reducible refine e_p ?_ (mp3 h) ?_); focus rfl)
      | ((with_reducible refine e_p ?_ (mp4 h) ?_); focus rfl)
      | ((with_reducible refine e_p ?_ (mp5 h) ?_); focus rfl)
      | ((with_reducible refine e_p ?_ (mp6 h) ?_); focus rfl)
      | ((with_reducible refine e_p ?_ (mp7 h) ?_); focus rfl)
      | ((with_reducible refine e_p ?_ (mp8 h) ?_); focus rfl)
      | ((with_reducible refine e_p ?_ (mp9 h) ?_); focus rfl)
      | ((with_reducible refine e_p ?_ (mp10 h) ?_); focus rfl)
      | ((with_reducible refine e_p ?_ (mp11 h) ?_); focus rfl)
      | ((with_reducible refine e_p ?_ (mp12 h) ?_); focus rfl)
      | ((with_reducible refine e_p ?_ (mp13 h) ?_); focus rfl)
      | ((with_reducible refine e_p ?_ (mp14 h) ?_); focus rfl)
      | ((with_reducible refine e_p ?_ (mp15 h) ?_); focus rfl)
      | ((with_reducible refine e_p ?_ (mp16 h) ?_); focus rfl)
      | ((with_reducible refine e_p ?_ (mp17 h) ?_); focus rfl)
      | ((with_reducible refine e_p ?_ (mp18 h) ?_); focus rfl)
      | ((with_reducible refine e_p ?_ (mp19 h) ?_); focus rfl)
      | ((with_reducible refine e_p ?_ (mp20 h) ?_); focus rfl)
      | ((with_reducible refine e_p ?_ (mp21 h) ?_); focus rfl)
      | ((with_reducible refine e_o2 ?_ e1 ?_); focus (first | with_reducible rfl | (simp (disch := omega) only [b_all, sV_all, ↓reduceIte, Nat.reduceEqDiff, Nat.reduceLT, Nat.reduceLeDiff, Nat.reduceAdd, Nat.reduceMul, Nat.reduceSub, i_lit, eq_self, and_true, true_and, and_self, not_true_eq_false, not_false_eq_true, or_true, true_or, or_false, false_or, false_and, and_false, reduceCtorEq, Nat.add_left_cancel_iff, Nat.add_zero, Nat.zero_add, md_all h, e17, c]; done)))
      | ((with_reducible refine e_ip ?_ ?_); focus (simp (disch := omega) only [b_all, sV_all, ↓reduceIte, Nat.reduceEqDiff, Nat.reduceLT, Nat.reduceLeDiff, Nat.reduceAdd, Nat.reduceMul, Nat.reduceSub, i_lit, eq_self, and_true, true_and, and_self, not_true_eq_false, not_false_eq_true, or_true, true_or, or_false, false_or, false_and, and_false, reduceCtorEq, Nat.add_left_cancel_iff, Nat.add_zero, Nat.zero_add, md_all h, e17, c]; done))
      | ((with_reducible refine e_in ?_ ?_); focus (simp (disch := omega) only [b_all, sV_all, ↓reduceIte, Nat.reduceEqDiff, Nat.reduceLT, Nat.reduceLeDiff, Nat.reduceAdd, Nat.reduceMul, Nat.reduceSub, i_lit, eq_self, and_true, true_and, and_self, not_true_eq_false, not_false_eq_true, or_true, true_or, or_false, false_or, false_and, and_false, reduceCtorEq, Nat.add_left_cancel_iff, Nat.add_zero, Nat.zero_add, md_all h, e17, c]; done))
      | fail)
    first | with_reducible rfl | simp (disch := omega) only [b_all, sV_all, ↓reduceIte, Nat.reduceEqDiff, Nat.reduceLT, Nat.reduceLeDiff, Nat.reduceAdd, Nat.reduceMul, Nat.reduceSub, i_lit, eq_self, and_true, true_and, and_self, not_true_eq_false, not_false_eq_true, or_true, true_or, or_false, false_or, false_and, and_false, reduceCtorEq, Nat.add_left_cancel_iff, Nat.add_zero, Nat.zero_add, md_all h, e17, c]
  · rw [if_neg c, List.append_nil]
    obtain ⟨W2, M2, e2, h2, g2⟩ := s_b331 (k := k) hk hw h g by' (by omega)
    refine ⟨W2, M2, ?_, h2, g2⟩
    rw [← e2]
    unfold fX5_byteOf_260
    repeat (first
      | (with_reducible refine e_l1 ?_)
      | ((with_reducible refine e_k ?_ (mkM h) ?_); focus rfl)
      | ((with_reducible refine e_p ?_ (mp1 h) ?_); focus rfl)
      | ((with_reducible refine e_p ?_ (mp2 h) ?_); focus rfl)
      | ((with_reducible refine e_p ?_ (mp3 h) ?_); focus rfl)
      | ((with_reducible refine e_p ?_ (mp4 h) ?_); focus rfl)
      | ((with_reducible refine e_p ?_ (mp5 h) ?_); focus rfl)
      | ((with_reducible refine e_p ?_ (mp6 h) ?_); focus rfl)
      | ((with_reducible refine e_p ?_ (mp7 h) ?_); focus rfl)
      | ((with_reducible refine e_p ?_ (mp8 h) ?_); focus rfl)
      | ((with_reducible refine e_p ?_ (mp9 h) ?_); focus rfl)
      | ((with_reducible refine e_p ?_ (mp10 h) ?_); focus rfl)
      | ((with_reducible refine e_p ?_ (mp11 h) ?_); focus rfl)
      | ((with_reducible refine e_p ?_ (mp12 h) ?_); focus rfl)
      | ((with_reducible refine e_p ?_ (mp13 h) ?_); focus rfl)
      | ((with_reducible refine e_p ?_ (mp14 h) ?_); focus rfl)
      | ((with_reducible refine e_p ?_ (mp15 h) ?_); focus rfl)
      | ((with_reducible refine e_p ?_ (mp16 h) ?_); focus rfl)
      | ((with_reducible refine e_p ?_ (mp17 h) ?_); focus rfl)
      | ((with_reducible refine e_p ?_ (mp18 h) ?_); focus rfl)
      | ((with_reducible refine e_p ?_ (mp19 h) ?_); focus rfl)
      | ((with_reducible refine e_p ?_ (mp20 h) ?_); focus rfl)
      | ((with_reducible refine e_p ?_ (mp21 h) ?_); focus rfl)
      | ((with_reducible refine e_ip ?_ ?_); focus (simp (disch := omega) only [b_all, sV_all, ↓reduceIte, Nat.reduceEqDiff, Nat.reduceLT, Nat.reduceLeDiff, Nat.reduceAdd, Nat.reduceMul, Nat.reduceSub, i_lit, eq_self, and_true, true_and, and_self, not_true_eq_false, not_false_eq_true, or_true, true_or, or_false, false_or, false_and, and_false, reduceCtorEq, Nat.add_left_cancel_iff, Nat.add_zero, Nat.zero_add, md_all h]; done))
      | ((with_reducible refine e_in ?_ ?_); focus (simp (disch := omega) only [b_all, sV_all, ↓reduceIte, Nat.reduceEqDiff, Nat.reduceLT, Nat.reduceLeDiff, Nat.reduceAdd, Nat.reduceMul, Nat.reduceSub, i_lit, eq_self, and_true, true_and, and_self, not_true_eq_false, not_false_eq_true, or_true, true_or, or_false, false_or, false_and, and_false, reduceCtorEq, Nat.add_left_cancel_iff, Nat.add_zero, Nat.zero_add, md_all h]; done))
      | fail)
    first | with_reducible rfl | simp (disch := omega) only [b_all, sV_all, ↓reduceIte, Nat.reduceEqDiff, Nat.reduceLT, Nat.reduceLeDiff, Nat.reduceAdd, Nat.reduceMul, Nat.reduceSub, i_lit, eq_self, and_true, true_and, and_self, not_true_eq_false, not_false_eq_true, or_true, true_or, or_false, false_or, false_and, and_false, reduceCtorEq, Nat.add_left_cancel_iff, Nat.add_zero, Nat.zero_add, md_all h]
theorem gt_in {L K : List Nat} {c d i : Nat} (h : i ≠ L.length) : gt (L ++ c :: K) i = gt (L ++ d :: K) i := by
  by_cases z : i < L.length
  · rw [gt_l z, gt_l z]
  · rw [gt_r (by omega), gt_r (by omega)]
    obtain ⟨m, e⟩ : ∃ m, i - L.length = m + 1 := ⟨i - L.length - 1, by omega⟩
    rw [e]; rfl
theorem gt_at {L K : List Nat} {c : Nat} : gt (L ++ c :: K) L.length = c := by
  rw [gt_r (Nat.le_refl _), Nat.sub_self]; rfl
/-- the objects, their count before them -/
theorem s_b152 (hk : 5000 ≤ k) {w t kd to : Nat} (hw : w < 4294967296) (ht : t < 200) (hkd : kd = 1 ∨ kd = 5) (hto : to < 5) (hb : 2 ≤ W 0 0 ∧ W 0 0 ≤ 5) (h13 : ∀ j, W 13 j < 2) (h17 : W 17 t ≤ 20) (L : List Nat) (by' : By L) (hl : L.length < 30) : ∀ n o W' M, St x B C W' M → Pg W W' (L ++ (ct (pB W kd to t) o :: obB W kd t (pB W kd to t) o)) → o ≤ 20 → 20 < n + o → ∃ W2 M2, fX5_byteOf_152 x k n (B + 25) (i32 w) (i32 kd) (i32 to) (i32 t) (i32 L.length) (i32 o) M = some (i32 (fnd (((L ++ (ct (pB W kd to t) 20 :: obB W kd t (pB W kd to t) 20)) ++ if kd = 5 then bt (i32 (W 17 t)) :: chB W t (W 17 t) else []) ++ two (i32 (chk ((L ++ (ct (pB W kd to t) 20 :: obB W kd t (pB W kd to t) 20)) ++ if kd = 5 then bt (i32 (W 17 t)) :: chB W t (W 17 t) else [])))) w), M2) ∧ St x B C W2 M2 ∧ Pg W W2 (((L ++ (ct (pB W kd to t) 20 :: obB W kd t (pB W kd to t) 20)) ++ if kd = 5 then bt (i32 (W 17 t)) :: chB W t (W 17 t) else []) ++ two (i32 (chk ((L ++ (ct (pB W kd to t) 20 :: obB W kd t (pB W kd to t) 20)) ++ if kd = 5 then bt (i32 (W 17 t)) :: chB W t (W 17 t) else [])))) := by
  intro n
  induction n with
  | zero => intro o W' M _ _ h1 h2; omega
  | succ n ih =>
    intro o W' M h g ho hn
    have hc := ct_le (pB W kd to t) o
    have hob := obB_l W kd t (pB W kd to t) o
    have e00 : W' 0 0 = W 0 0 := g.1 _ _ (by omega) (by omega)
    by_cases c : 20 ≤ o
    · obtain rfl : o = 20 := by omega
      obtain ⟨W2, M2, e2, h2, g2⟩ := s_b260 (k := k) hk hw ht (show kd < 6 by omega) h17 h g (by'.app ((By.one (by omega)).app hob.2)) (by rw [List.length_append, List.length_cons]; omega)
      refine ⟨W2, M2, ?_, h2, g2⟩
      rw [← e2, fX5_byteOf_152]
      repeat (first
        | (with_reducible refine e_l1 ?_)
        | ((with_reducible refine e_k ?_ (mkM h) ?_); focus rfl)
        | ((with_reducible refine e_p ?_ (mp1 h) ?_); focus rfl)
        | ((with_reducible refine e_p ?_ (mp2 h) ?_); focus rfl)
        | ((with_reducible refine e_p ?_ (mp3 h) ?_); focus rfl)
        | ((with_reducible refine e_p ?_ (mp4 h) ?_); focus rfl)
        | ((with_reducible refine e_p ?_ (mp5 h) ?_); focus rfl)
        | ((with_reducible refine e_p ?_ (mp6 h) ?_); focus rfl)
        | ((with_reducible refine e_p ?_ (mp7 h) ?_); focus rfl)
        | ((with_reducible refine e_p ?_ (mp8 h) ?_); focus rfl)
        | ((with_reducible refine e_p ?_ (mp9 h) ?_); focus rfl)
        | ((with_reducible refine e_p ?_ (mp10 h) ?_); focus rfl)
        | ((with_reducible refine e_p ?_ (mp11 h) ?_); focus rfl)
        | ((with_reducible refine e_p ?_ (mp12 h) ?_); focus rfl)
        | ((with_reducible refine e_p ?_ (mp13 h) ?_); focus rfl)
        | ((with_reducible refine e_p ?_ (mp14 h) ?_); focus rfl)
        | ((with_reducible refine e_p ?_ (mp15 h) ?_); focus rfl)
        | ((with_reducible refine e_p ?_ (mp16 h) ?_); focus rfl)
        | ((with_reducible refine e_p ?_ (mp17 h) ?_); focus rfl)
        | ((with_reducible refine e_p ?_ (mp18 h) ?_); focus rfl)
        | ((with_reducible refine e_p ?_ (mp19 h) ?_); focus rfl)
        | ((with_reducible refine e_p ?_ (mp20 h) ?_); focus rfl)
        | ((with_reducible refine e_p ?_ (mp21 h) ?_); focus rfl)
        | ((with_reducible refine e_ip ?_ ?_); focus (simp (disch := omega) only [b_all, sV_all, ↓reduceIte, Nat.reduceEqDiff, Nat.reduceLT, Nat.reduceLeDiff, Nat.reduceAdd, Nat.reduceMul, Nat.reduceSub, i_lit, eq_self, and_true, true_and, and_self, not_true_eq_false, not_false_eq_true, or_true, true_or, or_false, false_or, false_and, and_false, reduceCtorEq, Nat.add_left_cancel_iff, Nat.add_zero, Nat.zero_add, md_all h]; done))
        | ((with_reducible refine e_in ?_ ?_); focus (simp (disch := omega) only [b_all, sV_all, ↓reduceIte, Nat.reduceEqDiff, Nat.reduceLT, Nat.reduceLeDiff, Nat.reduceAdd, Nat.reduceMul, Nat.reduceSub, i_lit, eq_self, and_true, true_and, and_self, not_true_eq_false, not_false_eq_true, or_true, true_or, or_false, false_or, false_and, and_false, reduceCtorEq, Nat.add_left_cancel_iff, Nat.add_zero, Nat.zero_add, md_all h]; done))
        | fail)
      first | with_reducible rfl | simp (disch := omega) only [b_all, sV_all, ↓reduceIte, Nat.reduceEqDiff, Nat.reduceLT, Nat.reduceLeDiff, Nat.reduceAdd, Nat.reduceMul, Nat.reduceSub, i_lit, eq_self, and_true, true_and, and_self, not_true_eq_false, not_false_eq_true, or_true, true_or, or_false, false_or, false_and, and_false, reduceCtorEq, Nat.add_left_cancel_iff, Nat.add_zero, Nat.zero_add, md_all h]
    · have e13 : W' 13 (20 * t + o) = W 13 (20 * t + o) := g.1 _ _ (by omega) (by omega)
      have b13 := h13 (20 * t + o)
      have hmod : o % W 0 0 < W 0 0 := Nat.mod_lt _ (by omega)
      by_cases cp : pB W kd to t o
      · have ec : ct (pB W kd to t) (o + 1) = ct (pB W kd to t) o + 1 := by show _ + bp _ = _; rw [bp_t cp]
        have w13 : W 13 (20 * t + o) ≠ 0 := cp.1
        have h1 := su21 h L.length (ct (pB W kd to t) o + 1)
        have ll : (L ++ (ct (pB W kd to t) o :: obB W kd t (pB W kd to t) o)).length = L.length + (obB W kd t (pB W kd to t) o).length + 1 := by rw [List.length_append, List.length_cons]; omega
        have e21 : W' 21 L.length = ct (pB W kd to t) o := by rw [g.2.2.1 _ (by omega), gt_at]
        have g1 : Pg W (U W' 21 L.length (ct (pB W kd to t) o + 1)) (L ++ ((ct (pB W kd to t) o + 1) :: obB W kd t (pB W kd to t) o)) := by
          refine ⟨fun i j h1 h2 => by rw [U_r _ h1]; exact g.1 i j h1 h2, ?_, fun i hi => ?_, fun i => ?_⟩
          · rw [U_r _ (by omega), g.2.1, ll, List.length_append, List.length_cons]; omega
          · rw [List.length_append, List.length_cons] at hi
            by_cases z : i = L.length
            · rw [z, U_s, gt_at]
            · rw [U_k _ _ _ z, g.2.2.1 _ (by omega)]; exact gt_in z
          · by_cases z : i = L.length
            · rw [z, U_s]; omega
            · rw [U_k _ _ _ z]; exact g.2.2.2 i
        obtain ⟨W2, M2, e2, h2, g2⟩ := s_put (k := k) h1 g1 (by rw [List.length_append, List.length_cons]; omega) (i32 o)
        rw [← ec] at g2
        by_cases c5 : kd = 5
        · subst c5
          have e14 : W2 14 (20 * t + o) = W 14 (20 * t + o) := g2.1 _ _ (by omega) (by omega)
          obtain ⟨W3, M3, e3, h3, g3⟩ := s_putTwo (k := k) h2 g2 (by rw [List.length_append, List.length_append, List.length_cons]; show _ + 1 < 299; omega) (i32 (W 14 (20 * t + o)) >>> (i32 16 &&& i32 31))
          have e14' : W3 14 (20 * t + o) = W 14 (20 * t + o) := g3.1 _ _ (by omega) (by omega)
          obtain ⟨W4, M4, e4, h4, g4⟩ := s_putTwo (k := k) h3 g3 (by rw [List.length_append, List.length_append, List.length_append, List.length_cons]; show _ + 1 + 2 < 299; omega) (i32 (W 14 (20 * t + o)))
          obtain ⟨W5, M5, e5, h5, g5⟩ := ih (o + 1) W4 M4 h4 (by
            rw [obB_t cp]
            have ev : obV W 5 t o = bt (i32 o) :: (two (i32 (W 14 (20 * t + o)) >>> (i32 16 &&& i32 31)) ++ two (i32 (W 14 (20 * t + o)))) := by unfold obV; rw [if_pos rfl]; rfl
            rw [ev]
            simp only [List.append_assoc, List.cons_append, List.nil_append] at g4 ⊢
            exact g4) (by omega) (by omega)
          refine ⟨W5, M5, ?_, h5, g5⟩
          rw [← e5, fX5_byteOf_152]
          repeat (first
            | (with_reducible refine e_l1 ?_)
            | ((with_reducible refine e_k ?_ (mkM h) ?_); focus rfl)
            | ((with_reducible refine e_p ?_ (mp1 h) ?_); focus rfl)
            | ((with_reducible refine e_p ?_ (mp2 h) ?_); focus rfl)
            | ((with_reducible refine e_p ?_ (mp3 h) ?_); focus rfl)
            | ((with_reducible refine e_p ?_ (mp4 h) ?_); focus rfl)
            | ((with_reducible refine e_p ?_ (mp5 h) ?_); focus rfl)
            | ((with_reducible refine e_p ?_ (mp6 h) ?_); focus rfl)
            | ((with_reducible refine e_p ?_ (mp7 h) ?_); focus rfl)
            | ((with_reducible refine e_p ?_ (mp8 h) ?_); focus rfl)
            | ((with_reducible refine e_p ?_ (mp9 h) ?_); focus rfl)
            | ((with_reducible refine e_p ?_ (mp10 h) ?_); focus rfl)
            | ((with_reducible refine e_p ?_ (mp11 h) ?_); focus rfl)
            | ((with_reducible refine e_p ?_ (mp12 h) ?_); focus rfl)
            | ((with_reducible refine e_p ?_ (mp13 h) ?_); focus rfl)
            | ((with_reducible refine e_p ?_ (mp14 h) ?_); focus rfl)
            | ((with_reducible refine e_p ?_ (mp15 h) ?_); focus rfl)
            | ((with_reducible refine e_p ?_ (mp16 h) ?_); focus rfl)
            | ((with_reducible refine e_p ?_ (mp17 h) ?_); focus rfl)
            | ((with_reducible refine e_p ?_ (mp18 h) ?_); focus rfl)
            | ((with_reducible refine e_p ?_ (mp19 h) ?_); focus rfl)
            | ((with_reducible refine e_p ?_ (mp20 h) ?_); focus rfl)
            | ((with_reducible refine e_p ?_ (mp21 h) ?_); focus rfl)
            | ((with_reducible refine e_k ?_ (mkM h1) ?_); focus rfl)
            | ((with_reducible refine e_p ?_ (mp1 h1) ?_); focus rfl)
            | ((with_reducible refine e_p ?_ (mp2 h1) ?_); focus rfl)
            | ((with_reducible refine e_p ?_ (mp3 h1) ?_); focus rfl)
            | ((with_reducible refine e_p ?_ (mp4 h1) ?_); focus rfl)
            | ((with_reducible refine e_p ?_ (mp5 h1) ?_); focus rfl)
            | ((with_reducible refine e_p ?_ (mp6 h1) ?_); focus rfl)
            | ((with_reducible refine e_p ?_ (mp7 h1) ?_); focus rfl)
            | ((with_reducible refine e_p ?_ (mp8 h1) ?_); focus rfl)
            | ((with_reducible refine e_p ?_ (mp9 h1) ?_); focus rfl)
            | ((with_reducible refine e_p ?_ (mp10 h1) ?_); focus rfl)
            | ((with_reducible refine e_p ?_ (mp11 h1) ?_); focus rfl)
            | ((with_reducible refine e_p ?_ (mp12 h1) ?_); focus rfl)
            | ((with_reducible refine e_p ?_ (mp13 h1) ?_); focus rfl)
            | ((with_reducible refine e_p ?_ (mp14 h1) ?_); focus rfl)
            | ((with_reducible refine e_p ?_ (mp15 h1) ?_); focus rfl)
            | ((with_reducible refine e_p ?_ (mp16 h1) ?_); focus rfl)
            | ((with_reducible refine e_p ?_ (mp17 h1) ?_); focus rfl)
            | ((with_reducible refine e_p ?_ (mp18 h1) ?_); focus rfl)
            | ((with_reducible refine e_p ?_ (mp19 h1) ?_); focus rfl)
            | ((with_reducible refine e_p ?_ (mp20 h1) ?_); focus rfl)
            | ((with_reducible refine e_p ?_ (mp21 h1) ?_); focus rfl)
            | ((with_reducible refine e_k ?_ (mkM h2) ?_); focus rfl)
            | ((with_reducible refine e_p ?_ (mp1 h2) ?_); focus rfl)
            | ((with_reducible refine e_p ?_ (mp2 h2) ?_); focus rfl)
            | ((with_reducible refine e_p ?_ (mp3 h2) ?_); focus rfl)
            | ((with_reducible refine e_p ?_ (mp4 h2) ?_); focus rfl)
            | ((with_reducible refine e_p ?_ (mp5 h2) ?_); focus rfl)
            | ((with_reducible refine e_p ?_ (mp6 h2) ?_); focus rfl)
            | ((with_reducible refine e_p ?_ (mp7 h2) ?_); focus rfl)
            | ((with_reducible refine e_p ?_ (mp8 h2) ?_); focus rfl)
            | ((with_reducible refine e_p ?_ (mp9 h2) ?_); focus rfl)
            | ((with_reducible refine e_p ?_ (mp10 h2) ?_); focus rfl)
            | ((with_reducible refine e_p ?_ (mp11 h2) ?_); focus rfl)
            | ((with_reducible refine e_p ?_ (mp12 h2) ?_); focus rfl)
            | ((with_reducible refine e_p ?_ (mp13 h2) ?_); focus rfl)
            | ((with_reducible refine e_p ?_ (mp14 h2) ?_); focus rfl)
            | ((with_reducible refine e_p ?_ (mp15 h2) ?_); focus rfl)
            | ((with_reducible refine e_p ?_ (mp16 h2) ?_); focus rfl)
            | ((with_reducible refine e_p ?_ (mp17 h2) ?_); focus rfl)
            | ((with_reducible refine e_p ?_ (mp18 h2) ?_); focus rfl)
            | ((with_reducible refine e_p ?_ (mp19 h2) ?_); focus rfl)
            | ((with_reducible refine e_p ?_ (mp20 h2) ?_); focus rfl)
            | ((with_reducible refine e_p ?_ (mp21 h2) ?_); focus rfl)
            | ((with_reducible refine e_k ?_ (mkM h3) ?_); focus rfl)
            | ((with_reducible refine e_p ?_ (mp1 h3) ?_); focus rfl)
            | ((with_reducible refine e_p ?_ (mp2 h3) ?_); focus rfl)
            | ((with_reducible refine e_p ?_ (mp3 h3) ?_); focus rfl)
            | ((with_reducible refine e_p ?_ (mp4 h3) ?_); focus rfl)
            | ((with_reducible refine e_p ?_ (mp5 h3) ?_); focus rfl)
            | ((with_reducible refine e_p ?_ (mp6 h3) ?_); focus rfl)
            | ((with_reducible refine e_p ?_ (mp7 h3) ?_); focus rfl)
            | ((with_reducible refine e_p ?_ (mp8 h3) ?_); focus rfl)
            | ((with_reducible refine e_p ?_ (mp9 h3) ?_); focus rfl)
            | ((with_reducible refine e_p ?_ (mp10 h3) ?_); focus rfl)
            | ((with_reducible refine e_p ?_ (mp11 h3) ?_); focus rfl)
            | ((with_reducible refine e_p ?_ (mp12 h3) ?_); focus rfl)
            | ((with_reducible refine e_p ?_ (mp13 h3) ?_); focus rfl)
            | ((with_reducible refine e_p ?_ (mp14 h3) ?_); focus rfl)
            | ((with_reducible refine e_p ?_ (mp15 h3) ?_); focus rfl)
            | ((with_reducible refine e_p ?_ (mp16 h3) ?_); focus rfl)
            | ((with_reducible refine e_p ?_ (mp17 h3) ?_); focus rfl)
            | ((with_reducible refine e_p ?_ (mp18 h3) ?_); focus rfl)
            | ((with_reducible refine e_p ?_ (mp19 h3) ?_); focus rfl)
            | ((with_reducible refine e_p ?_ (mp20 h3) ?_); focus rfl)
            | ((with_reducible refine e_p ?_ (mp21 h3) ?_); focus rfl)
            | ((with_reducible refine e_o2 ?_ e2 ?_); focus (first | with_reducible rfl | (simp (disch := omega) only [b_all, sV_all, ↓reduceIte, Nat.reduceEqDiff, Nat.reduceLT, Nat.reduceLeDiff, Nat.reduceAdd, Nat.reduceMul, Nat.reduceSub, i_lit, eq_self, and_true, true_and, and_self, not_true_eq_false, not_false_eq_true, or_true, true_or, or_false, false_or, false_and, and_false, reduceCtorEq, Nat.add_left_cancel_iff, Nat.add_zero, Nat.zero_add, md_all h, md_all h1, md_all h2, md_all h3, e13, e21, e14, e14']; done)))
            | ((with_reducible refine e_o2 ?_ e3 ?_); focus (first | with_reducible rfl | (simp (disch := omega) only [b_all, sV_all, ↓reduceIte, Nat.reduceEqDiff, Nat.reduceLT, Nat.reduceLeDiff, Nat.reduceAdd, Nat.reduceMul, Nat.reduceSub, i_lit, eq_self, and_true, true_and, and_self, not_true_eq_false, not_false_eq_true, or_true, true_or, or_false, false_or, false_and, and_false, reduceCtorEq, Nat.add_left_cancel_iff, Nat.add_zero, Nat.zero_add, md_all h, md_all h1, md_all h2, md_all h3, e13, e21, e14, e14']; done)))
            | ((with_reducible refine e_o2 ?_ e4 ?_); focus (first | with_reducible rfl | (simp (disch := omega) only [b_all, sV_all, ↓reduceIte, Nat.reduceEqDiff, Nat.reduceLT, Nat.reduceLeDiff, Nat.reduceAdd, Nat.reduceMul, Nat.reduceSub, i_lit, eq_self, and_true, true_and, and_self, not_true_eq_false, not_false_eq_true, or_true, true_or, or_false, false_or, false_and, and_false, reduceCtorEq, Nat.add_left_cancel_iff, Nat.add_zero, Nat.zero_add, md_all h, md_all h1, md_all h2, md_all h3, e13, e21, e14, e14']; done)))
            | ((with_reducible refine e_ip ?_ ?_); focus (simp (disch := omega) only [b_all, sV_all, ↓reduceIte, Nat.reduceEqDiff, Nat.reduceLT, Nat.reduceLeDiff, Nat.reduceAdd, Nat.reduceMul, Nat.reduceSub, i_lit, eq_self, and_true, true_and, and_self, not_true_eq_false, not_false_eq_true, or_true, true_or, or_false, false_or, false_and, and_false, reduceCtorEq, Nat.add_left_cancel_iff, Nat.add_zero, Nat.zero_add, md_all h, md_all h1, md_all h2, md_all h3, e13, e21, e14, e14']; done))
            | ((with_reducible refine e_in ?_ ?_); focus (simp (disch := omega) only [b_all, sV_all, ↓reduceIte, Nat.reduceEqDiff, Nat.reduceLT, Nat.reduceLeDiff, Nat.reduceAdd, Nat.reduceMul, Nat.reduceSub, i_lit, eq_self, and_true, true_and, and_self, not_true_eq_false, not_false_eq_true, or_true, true_or, or_false, false_or, false_and, and_false, reduceCtorEq, Nat.add_left_cancel_iff, Nat.add_zero, Nat.zero_add, md_all h, md_all h1, md_all h2, md_all h3, e13, e21, e14, e14']; done))
            | unfold fX5_byteOf_195
            | unfold fX5_byteOf_254
            | fail)
          first | with_reducible rfl | simp (disch := omega) only [b_all, sV_all, ↓reduceIte, Nat.reduceEqDiff, Nat.reduceLT, Nat.reduceLeDiff, Nat.reduceAdd, Nat.reduceMul, Nat.reduceSub, i_lit, eq_self, and_true, true_and, and_self, not_true_eq_false, not_false_eq_true, or_true, true_or, or_false, false_or, false_and, and_false, reduceCtorEq, Nat.add_left_cancel_iff, Nat.add_zero, Nat.zero_add, md_all h, md_all h1, md_all h2, md_all h3, e13, e21, e14, e14']
        · have c1 : kd = 1 := by omega
          subst c1
          have hm := cp.2 rfl
          obtain ⟨W5, M5, e5, h5, g5⟩ := ih (o + 1) W2 M2 h2 (by
            rw [obB_t cp]
            have ev : obV W 1 t o = [bt (i32 o)] := by unfold obV; rw [if_neg (by omega)]
            rw [ev]
            simp only [List.append_assoc, List.cons_append, List.nil_append] at g2 ⊢
            exact g2) (by omega) (by omega)
          refine ⟨W5, M5, ?_, h5, g5⟩
          rw [← e5, fX5_byteOf_152]
          repeat (first
            | (with_reducible refine e_l1 ?_)
            | ((with_reducible refine e_k ?_ (mkM h) ?_); focus rfl)
            | ((with_reducible refine e_p ?_ (mp1 h) ?_); focus rfl)
            | ((with_reducible refine e_p ?_ (mp2 h) ?_); focus rfl)
            | ((with_reducible refine e_p ?_ (mp3 h) ?_); focus rfl)
            | ((with_reducible refine e_p ?_ (mp4 h) ?_); focus rfl)
            | ((with_reducible refine e_p ?_ (mp5 h) ?_); focus rfl)
            | ((with_reducible refine e_p ?_ (mp6 h) ?_); focus rfl)
            | ((with_reducible refine e_p ?_ (mp7 h) ?_); focus rfl)
            | ((with_reducible refine e_p ?_ (mp8 h) ?_); focus rfl)
            | ((with_reducible refine e_p ?_ (mp9 h) ?_); focus rfl)
            | ((with_reducible refine e_p ?_ (mp10 h) ?_); focus rfl)
            | ((with_reducible refine e_p ?_ (mp11 h) ?_); focus rfl)
            | ((with_reducible refine e_p ?_ (mp12 h) ?_); focus rfl)
            | ((with_reducible refine e_p ?_ (mp13 h) ?_); focus rfl)
            | ((with_reducible refine e_p ?_ (mp14 h) ?_); focus rfl)
            | ((with_reducible refine e_p ?_ (mp15 h) ?_); focus rfl)
            | ((with_reducible refine e_p ?_ (mp16 h) ?_); focus rfl)
            | ((with_reducible refine e_p ?_ (mp17 h) ?_); focus rfl)
            | ((with_reducible refine e_p ?_ (mp18 h) ?_); focus rfl)
            | ((with_reducible refine e_p ?_ (mp19 h) ?_); focus rfl)
            | ((with_reducible refine e_p ?_ (mp20 h) ?_); focus rfl)
            | ((with_reducible refine e_p ?_ (mp21 h) ?_); focus rfl)
            | ((with_reducible refine e_k ?_ (mkM h1) ?_); focus rfl)
            | ((with_reducible refine e_p ?_ (mp1 h1) ?_); focus rfl)
            | ((with_reducible refine e_p ?_ (mp2 h1) ?_); focus rfl)
            | ((with_reducible refine e_p ?_ (mp3 h1) ?_); focus rfl)
            | ((with_reducible refine e_p ?_ (mp4 h1) ?_); focus rfl)
            | ((with_reducible refine e_p ?_ (mp5 h1) ?_); focus rfl)
            | ((with_reducible refine e_p ?_ (mp6 h1) ?_); focus rfl)
            | ((with_reducible refine e_p ?_ (mp7 h1) ?_); focus rfl)
            | ((with_reducible refine e_p ?_ (mp8 h1) ?_); focus rfl)
            | ((with_reducible refine e_p ?_ (mp9 h1) ?_); focus rfl)
            | ((with_reducible refine e_p ?_ (mp10 h1) ?_); focus rfl)
            | ((with_reducible refine e_p ?_ (mp11 h1) ?_); focus rfl)
            | ((with_reducible refine e_p ?_ (mp12 h1) ?_); focus rfl)
            | ((with_reducible refine e_p ?_ (mp13 h1) ?_); focus rfl)
            | ((with_reducible refine e_p ?_ (mp14 h1) ?_); focus rfl)
            | ((with_reducible refine e_p ?_ (mp15 h1) ?_); focus rfl)
            | ((with_reducible refine e_p ?_ (mp16 h1) ?_); focus rfl)
            | ((with_reducible refine e_p ?_ (mp17 h1) ?_); focus rfl)
            | ((with_reducible refine e_p ?_ (mp18 h1) ?_); focus rfl)
            | ((with_reducible refine e_p ?_ (mp19 h1) ?_); focus rfl)
            | ((with_reducible refine e_p ?_ (mp20 h1) ?_); focus rfl)
            | ((with_reducible refine e_p ?_ (mp21 h1) ?_); focus rfl)
            | ((with_reducible refine e_k ?_ (mkM h2) ?_); focus rfl)
            | ((with_reducible refine e_p ?_ (mp1 h2) ?_); focus rfl)
            | ((with_reducible refine e_p ?_ (mp2 h2) ?_); focus rfl)
            | ((with_reducible refine e_p ?_ (mp3 h2) ?_); focus rfl)
            | ((with_reducible refine e_p ?_ (mp4 h2) ?_); focus rfl)
            | ((with_reducible refine e_p ?_ (mp5 h2) ?_); focus rfl)
            | ((with_reducible refine e_p ?_ (mp6 h2) ?_); focus rfl)
            | ((with_reducible refine e_p ?_ (mp7 h2) ?_); focus rfl)
            | ((with_reducible refine e_p ?_ (mp8 h2) ?_); focus rfl)
            | ((with_reducible refine e_p ?_ (mp9 h2) ?_); focus rfl)
            | ((with_reducible refine e_p ?_ (mp10 h2) ?_); focus rfl)
            | ((with_reducible refine e_p ?_ (mp11 h2) ?_); focus rfl)
            | ((with_reducible refine e_p ?_ (mp12 h2) ?_); focus rfl)
            | ((with_reducible refine e_p ?_ (mp13 h2) ?_); focus rfl)
            | ((with_reducible refine e_p ?_ (mp14 h2) ?_); focus rfl)
            | ((with_reducible refine e_p ?_ (mp15 h2) ?_); focus rfl)
            | ((with_reducible refine e_p ?_ (mp16 h2) ?_); focus rfl)
            | ((with_reducible refine e_p ?_ (mp17 h2) ?_); focus rfl)
            | ((with_reducible refine e_p ?_ (mp18 h2) ?_); focus rfl)
            | ((with_reducible refine e_p ?_ (mp19 h2) ?_); focus rfl)
            | ((with_reducible refine e_p ?_ (mp20 h2) ?_); focus rfl)
            | ((with_reducible refine e_p ?_ (mp21 h2) ?_); focus rfl)
            | ((with_reducible refine e_o2 ?_ e2 ?_); focus (first | with_reducible rfl | (simp (disch := omega) only [b_all, sV_all, ↓reduceIte, Nat.reduceEqDiff, Nat.reduceLT, Nat.reduceLeDiff, Nat.reduceAdd, Nat.reduceMul, Nat.reduceSub, i_lit, eq_self, and_true, true_and, and_self, not_true_eq_false, not_false_eq_true, or_true, true_or, or_false, false_or, false_and, and_false, reduceCtorEq, Nat.add_left_cancel_iff, Nat.add_zero, Nat.zero_add, md_all h, md_all h1, md_all h2, e13, e21, e00, hm]; done)))
            | ((with_reducible refine e_ip ?_ ?_); focus (simp (disch := omega) only [b_all, sV_all, ↓reduceIte, Nat.reduceEqDiff, Nat.reduceLT, Nat.reduceLeDiff, Nat.reduceAdd, Nat.reduceMul, Nat.reduceSub, i_lit, eq_self, and_true, true_and, and_self, not_true_eq_false, not_false_eq_true, or_true, true_or, or_false, false_or, false_and, and_false, reduceCtorEq, Nat.add_left_cancel_iff, Nat.add_zero, Nat.zero_add, md_all h, md_all h1, md_all h2, e13, e21, e00, hm]; done))
            | ((with_reducible refine e_in ?_ ?_); focus (simp (disch := omega) only [b_all, sV_all, ↓reduceIte, Nat.reduceEqDiff, Nat.reduceLT, Nat.reduceLeDiff, Nat.reduceAdd, Nat.reduceMul, Nat.reduceSub, i_lit, eq_self, and_true, true_and, and_self, not_true_eq_false, not_false_eq_true, or_true, true_or, or_false, false_or, false_and, and_false, reduceCtorEq, Nat.add_left_cancel_iff, Nat.add_zero, Nat.zero_add, md_all h, md_all h1, md_all h2, e13, e21, e00, hm]; done))
            | unfold fX5_byteOf_195
            | unfold fX5_byteOf_254
            | fail)
          first | with_reducible rfl | simp (disch := omega) only [b_all, sV_all, ↓reduceIte, Nat.reduceEqDiff, Nat.reduceLT, Nat.reduceLeDiff, Nat.reduceAdd, Nat.reduceMul, Nat.reduceSub, i_lit, eq_self, and_true, true_and, and_self, not_true_eq_false, not_false_eq_true, or_true, true_or, or_false, false_or, false_and, and_false, reduceCtorEq, Nat.add_left_cancel_iff, Nat.add_zero, Nat.zero_add, md_all h, md_all h1, md_all h2, e13, e21, e00, hm]
      · have ec : ct (pB W kd to t) (o + 1) = ct (pB W kd to t) o := by show _ + bp _ = _; rw [bp_f cp]; rfl
        obtain ⟨W5, M5, e5, h5, g5⟩ := ih (o + 1) W' M h (by rw [ec, obB_f cp]; exact g) (by omega) (by omega)
        refine ⟨W5, M5, ?_, h5, g5⟩
        rw [← e5, fX5_byteOf_152]
        by_cases w13 : W 13 (20 * t + o) = 0
        · repeat (first
            | (with_reducible refine e_l1 ?_)
            | ((with_reducible refine e_k ?_ (mkM h) ?_); focus rfl)
            | ((with_reducible refine e_p ?_ (mp1 h) ?_); focus rfl)
            | ((with_reducible refine e_p ?_ (mp2 h) ?_); focus rfl)
            | ((with_reducible refine e_p ?_ (mp3 h) ?_); focus rfl)
            | ((with_reducible refine e_p ?_ (mp4 h) ?_); focus rfl)
            | ((with_reducible refine e_p ?_ (mp5 h) ?_); focus rfl)
            | ((with_reducible refine e_p ?_ (mp6 h) ?_); focus rfl)
            | ((with_reducible refine e_p ?_ (mp7 h) ?_); focus rfl)
            | ((with_reducible refine e_p ?_ (mp8 h) ?_); focus rfl)
            | ((with_reducible refine e_p ?_ (mp9 h) ?_); focus rfl)
            | ((with_reducible refine e_p ?_ (mp10 h) ?_); focus rfl)
            | ((with_reducible refine e_p ?_ (mp11 h) ?_); focus rfl)
            | ((with_reducible refine e_p ?_ (mp12 h) ?_); focus rfl)
            | ((with_reducible refine e_p ?_ (mp13 h) ?_); focus rfl)
            | ((with_reducible refine e_p ?_ (mp14 h) ?_); focus rfl)
            | ((with_reducible refine e_p ?_ (mp15 h) ?_); focus rfl)
            | ((with_reducible refine e_p ?_ (mp16 h) ?_); focus rfl)
            | ((with_reducible refine e_p ?_ (mp17 h) ?_); focus rfl)
            | ((with_reducible refine e_p ?_ (mp18 h) ?_); focus rfl)
            | ((with_reducible refine e_p ?_ (mp19 h) ?_); focus rfl)
            | ((with_reducible refine e_p ?_ (mp20 h) ?_); focus rfl)
            | ((with_reducible refine e_p ?_ (mp21 h) ?_); focus rfl)
            | ((with_reducible refine e_ip ?_ ?_); focus (simp (disch := omega) only [b_all, sV_all, ↓reduceIte, Nat.reduceEqDiff, Nat.reduceLT, Nat.reduceLeDiff, Nat.reduceAdd, Nat.reduceMul, Nat.reduceSub, i_lit, eq_self, and_true, true_and, and_self, not_true_eq_false, not_false_eq_true, or_true, true_or, or_false, false_or, false_and, and_false, reduceCtorEq, Nat.add_left_cancel_iff, Nat.add_zero, Nat.zero_add, md_all h, e13]; done))
            | ((with_reducible refine e_in ?_ ?_); focus (simp (disch := omega) only [b_all, sV_all, ↓reduceIte, Nat.reduceEqDiff, Nat.reduceLT, Nat.reduceLeDiff, Nat.reduceAdd, Nat.reduceMul, Nat.reduceSub, i_lit, eq_self, and_true, true_and, and_self, not_true_eq_false, not_false_eq_true, or_true, true_or, or_false, false_or, false_and, and_false, reduceCtorEq, Nat.add_left_cancel_iff, Nat.add_zero, Nat.zero_add, md_all h, e13]; done))
            | unfold fX5_byteOf_254
            | fail)
          first | with_reducible rfl | simp (disch := omega) only [b_all, sV_all, ↓reduceIte, Nat.reduceEqDiff, Nat.reduceLT, Nat.reduceLeDiff, Nat.reduceAdd, Nat.reduceMul, Nat.reduceSub, i_lit, eq_self, and_true, true_and, and_self, not_true_eq_false, not_false_eq_true, or_true, true_or, or_false, false_or, false_and, and_false, reduceCtorEq, Nat.add_left_cancel_iff, Nat.add_zero, Nat.zero_add, md_all h, e13]
        · have c1 : kd = 1 := by
            rcases hkd with z | z
            · exact z
            · exact absurd ⟨w13, fun y => by omega⟩ cp
          subst c1
          have hm : ¬ o % W 0 0 = to := fun z => cp ⟨w13, fun _ => z⟩
          repeat (first
            | (with_reducible refine e_l1 ?_)
            | ((with_reducible refine e_k ?_ (mkM h) ?_); focus rfl)
            | ((with_reducible refine e_p ?_ (mp1 h) ?_); focus rfl)
            | ((with_reducible refine e_p ?_ (mp2 h) ?_); focus rfl)
            | ((with_reducible refine e_p ?_ (mp3 h) ?_); focus rfl)
            | ((with_reducible refine e_p ?_ (mp4 h) ?_); focus rfl)
            | ((with_reducible refine e_p ?_ (mp5 h) ?_); focus rfl)
            | ((with_reducible refine e_p ?_ (mp6 h) ?_); focus rfl)
            | ((with_reducible refine e_p ?_ (mp7 h) ?_); focus rfl)
            | ((with_reducible refine e_p ?_ (mp8 h) ?_); focus rfl)
            | ((with_reducible refine e_p ?_ (mp9 h) ?_); focus rfl)
            | ((with_reducible refine e_p ?_ (mp10 h) ?_); focus rfl)
            | ((with_reducible refine e_p ?_ (mp11 h) ?_); focus rfl)
            | ((with_reducible refine e_p ?_ (mp12 h) ?_); focus rfl)
            | ((with_reducible refine e_p ?_ (mp13 h) ?_); focus rfl)
            | ((with_reducible refine e_p ?_ (mp14 h) ?_); focus rfl)
            | ((with_reducible refine e_p ?_ (mp15 h) ?_); focus rfl)
            | ((with_reducible refine e_p ?_ (mp16 h) ?_); focus rfl)
            | ((with_reducible refine e_p ?_ (mp17 h) ?_); focus rfl)
            | ((with_reducible refine e_p ?_ (mp18 h) ?_); focus rfl)
            | ((with_reducible refine e_p ?_ (mp19 h) ?_); focus rfl)
            | ((with_reducible refine e_p ?_ (mp20 h) ?_); focus rfl)
            | ((with_reducible refine e_p ?_ (mp21 h) ?_); focus rfl)
            | ((with_reducible refine e_ip ?_ ?_); focus (simp (disch := omega) only [b_all, sV_all, ↓reduceIte, Nat.reduceEqDiff, Nat.reduceLT, Nat.reduceLeDiff, Nat.reduceAdd, Nat.reduceMul, Nat.reduceSub, i_lit, eq_self, and_true, true_and, and_self, not_true_eq_false, not_false_eq_true, or_true, true_or, or_false, false_or, false_and, and_false, reduceCtorEq, Nat.add_left_cancel_iff, Nat.add_zero, Nat.zero_add, md_all h, e13, e00]; done))
            | ((with_reducible refine e_in ?_ ?_); focus (simp (disch := omega) only [b_all, sV_all, ↓reduceIte, Nat.reduceEqDiff, Nat.reduceLT, Nat.reduceLeDiff, Nat.reduceAdd, Nat.reduceMul, Nat.reduceSub, i_lit, eq_self, and_true, true_and, and_self, not_true_eq_false, not_false_eq_true, or_true, true_or, or_false, false_or, false_and, and_false, reduceCtorEq, Nat.add_left_cancel_iff, Nat.add_zero, Nat.zero_add, md_all h, e13, e00]; done))
            | unfold fX5_byteOf_254
            | fail)
          first | with_reducible rfl | simp (disch := omega) only [b_all, sV_all, ↓reduceIte, Nat.reduceEqDiff, Nat.reduceLT, Nat.reduceLeDiff, Nat.reduceAdd, Nat.reduceMul, Nat.reduceSub, i_lit, eq_self, and_true, true_and, and_self, not_true_eq_false, not_false_eq_true, or_true, true_or, or_false, false_or, false_and, and_false, reduceCtorEq, Nat.add_left_cancel_iff, Nat.add_zero, Nat.zero_add, md_all h, e13, e00]
end
