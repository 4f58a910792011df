/-! Bytes of a letter: the reference's call -/
section
variable {x : Cx} {k B : Nat} {C W W0 : Ab} {M : Mm}
theorem s_b138 (hk : 5000 ≤ k) {w t kd to : Nat} (hw : w < 4294967296) (ht : t < 200) (hkd : kd = 1 ∨ kd = 5) (hto : to < 5) (hb : 2 ≤ W 0 0 ∧ W 0 0 ≤ 5) (h13 : ∀ j, W 13 j < 2) (h17 : W 17 t ≤ 20) {L : List Nat} (by' : By L) (hl : L.length < 30) {W' : Ab} (h : St x B C W' M) (g : Pg W W' L) : ∃ W2 M2, fX5_byteOf_138 x k (B + 25) (i32 w) (i32 kd) (i32 to) (i32 t) M = some (i32 (fnd (((L ++ (ct (pB W kd to t) 20 :: obB W kd t (pB W kd to t) 20)) ++ if kd = 5 then bt (i32 (W 17 t)) :: chB W t (W 17 t) else []) ++ two (i32 (chk ((L ++ (ct (pB W kd to t) 20 :: obB W kd t (pB W kd to t) 20)) ++ if kd = 5 then bt (i32 (W 17 t)) :: chB W t (W 17 t) else [])))) w), M2) ∧ St x B C W2 M2 ∧ Pg W W2 (((L ++ (ct (pB W kd to t) 20 :: obB W kd t (pB W kd to t) 20)) ++ if kd = 5 then bt (i32 (W 17 t)) :: chB W t (W 17 t) else []) ++ two (i32 (chk ((L ++ (ct (pB W kd to t) 20 :: obB W kd t (pB W kd to t) 20)) ++ if kd = 5 then bt (i32 (W 17 t)) :: chB W t (W 17 t) else [])))) := by
  have e26 := g.2.1
  obtain ⟨W1, M1, e1, h1, g1⟩ := s_put (k := k) h g (by omega) (i32 0)
  rw [bt_n (by omega)] at g1
  obtain ⟨W2, M2, e2, h2, g2⟩ := s_b152 (k := k) hk hw ht hkd hto hb h13 h17 L by' hl k 0 W1 M1 h1 g1 (by omega) (by omega)
  refine ⟨W2, M2, ?_, h2, g2⟩
  rw [← e2]
  unfold fX5_byteOf_138
  repeat (first
    | (with_reducible refine e_l1 ?_)
    | ((with_reducible refine e_k ?_ (mkM h) ?_); focus rfl)
    | ((with_reducible refine e_p ?_ (mp1 h) ?_); focus rfl)
    | ((with_reducible refine e_p ?_ (mp2 h) ?_); focus rfl)
    | ((with_reducible refine e_p ?_ (mp3 h) ?_); focus rfl)
    | ((with_reducible refine e_p ?_ (mp4 h) ?_); focus rfl)
    | ((with_reducible refine e_p ?_ (mp5 h) ?_); focus rfl)
    | ((with_reducible refine e_p ?_ (mp6 h) ?_); focus rfl)
    | ((with_reducible refine e_p ?_ (mp7 h) ?_); focus rfl)
    | ((with_reducible refine e_p ?_ (mp8 h) ?_); focus rfl)
    | ((with_reducible refine e_p ?_ (mp9 h) ?_); focus rfl)
    | ((with_reducible refine e_p ?_ (mp10 h) ?_); focus rfl)
    | ((with_reducible refine e_p ?_ (mp11 h) ?_); focus rfl)
    | ((with_reducible refine e_p ?_ (mp12 h) ?_); focus rfl)
    | ((with_reducible refine e_p ?_ (mp13 h) ?_); focus rfl)
    | ((with_reducible refine e_p ?_ (mp14 h) ?_); focus rfl)
    | ((with_reducible refine e_p ?_ (mp15 h) ?_); focus rfl)
    | ((with_reducible refine e_p ?_ (mp16 h) ?_); focus rfl)
    | ((with_reducible refine e_p ?_ (mp17 h) ?_); focus rfl)
    | ((with_reducible refine e_p ?_ (mp18 h) ?_); focus rfl)
    | ((with_reducible refine e_p ?_ (mp19 h) ?_); focus rfl)
    | ((with_reducible refine e_p ?_ (mp20 h) ?_); focus rfl)
    | ((with_reducible refine e_p ?_ (mp21 h) ?_); focus rfl)
    | ((with_reducible refine e_o2 ?_ e1 ?_); focus (first | with_reducible rfl | (simp (disch := omega) only [b_all, sV_all, ↓reduceIte, Nat.reduceEqDiff, Nat.reduceLT, Nat.reduceLeDiff, Nat.reduceAdd, Nat.reduceMul, Nat.reduceSub, i_lit, eq_self, and_true, true_and, and_self, not_true_eq_false, not_false_eq_true, or_true, true_or, or_false, false_or, false_and, and_false, reduceCtorEq, Nat.add_left_cancel_iff, Nat.add_zero, Nat.zero_add, md_all h, e26]; done)))
    | ((with_reducible refine e_ip ?_ ?_); focus (simp (disch := omega) only [b_all, sV_all, ↓reduceIte, Nat.reduceEqDiff, Nat.reduceLT, Nat.reduceLeDiff, Nat.reduceAdd, Nat.reduceMul, Nat.reduceSub, i_lit, eq_self, and_true, true_and, and_self, not_true_eq_false, not_false_eq_true, or_true, true_or, or_false, false_or, false_and, and_false, reduceCtorEq, Nat.add_left_cancel_iff, Nat.add_zero, Nat.zero_add, md_all h, e26]; done))
    | ((with_reducible refine e_in ?_ ?_); focus (simp (disch := omega) only [b_all, sV_all, ↓reduceIte, Nat.reduceEqDiff, Nat.reduceLT, Nat.reduceLeDiff, Nat.reduceAdd, Nat.reduceMul, Nat.reduceSub, i_lit, eq_self, and_true, true_and, and_self, not_true_eq_false, not_false_eq_true, or_true, true_or, or_false, false_or, false_and, and_false, reduceCtorEq, Nat.add_left_cancel_iff, Nat.add_zero, Nat.zero_add, md_all h, e26]; done))
    | fail)
  first | with_reducible rfl | simp (disch := omega) only [b_all, sV_all, ↓reduceIte, Nat.reduceEqDiff, Nat.reduceLT, Nat.reduceLeDiff, Nat.reduceAdd, Nat.reduceMul, Nat.reduceSub, i_lit, eq_self, and_true, true_and, and_self, not_true_eq_false, not_false_eq_true, or_true, true_or, or_false, false_or, false_and, and_false, reduceCtorEq, Nat.add_left_cancel_iff, Nat.add_zero, Nat.zero_add, md_all h, e26]
theorem m_byte_ok (hk : 5000 ≤ k) (h : St x B C W M) (hb : Bd W) {j w kd fr to t : Nat} (hw : w < 4294967296) (hj : j < W 0 23) (e0 : W 20 (4 * j) = kd) (e1 : W 20 (4 * j + 1) = fr) (e2 : W 20 (4 * j + 2) = to) (e3 : W 20 (4 * j + 3) = t) (hkd : 1 ≤ kd ∧ kd ≤ 5) (hto : to < 5) (ht : t < 200) : ∃ W2 M2, fX5_byteOf x k (B + 25) (i32 j) (i32 w) M = some (i32 (fnd (allB W kd fr to t ++ two (i32 (chk (allB W kd fr to t)))) w), M2) ∧ St x B C W2 M2 ∧ Pg (t0 W) W2 (allB W kd fr to t ++ two (i32 (chk (allB W kd fr to t)))) := by
  have hb1 := hb.1
  have h17 : W 17 t ≤ 20 := by have : W 17 t < 21 := hb.r (by omega) t; omega
  have h13 : ∀ q, t0 W 13 q < 2 := fun q => hb.t0.r (by omega) q
  have f0 := s_fails0 (k := k) h 1
  have hA : St x B C (U (t0 W) 0 26 0) _ := su0 (su0 h 27 0) 26 0
  have gA : Pg (t0 W) (U (t0 W) 0 26 0) [] := ⟨fun i q h1 h2 => U_ne _ (by omega) _, U_s _ _ _ _, fun i hi => by simp at hi, fun i => by rw [U_r _ (by omega)]; exact hb.t0.r (by omega) i⟩
  obtain ⟨W1, M1, q1, h1, g1⟩ := s_put (k := k) hA gA (by show 0 < 300; omega) (i32 kd)
  have n1 : W1 20 (4 * j + 1) = fr := by rw [g1.1 _ _ (by omega) (by omega)]; exact e1
  obtain ⟨W2, M2, q2, h2, g2⟩ := s_put (k := k) h1 g1 (by show 1 < 300; omega) (i32 fr)
  obtain ⟨W3, M3, q3, h3, g3⟩ := s_put (k := k) h2 g2 (by show 2 < 300; omega) (i32 to)
  obtain ⟨W4, M4, q4, h4, g4⟩ := s_putTwo (k := k) h3 g3 (by show 3 < 299; omega) (i32 t)
  have hL : By ([bt (i32 kd), bt (i32 fr), bt (i32 to)] ++ two (i32 t)) := ((By.one (bt_lt _)).app ((By.one (bt_lt _)).app (By.one (bt_lt _)))).app (two_by _)
  have g4' : Pg (t0 W) W4 ([bt (i32 kd), bt (i32 fr), bt (i32 to)] ++ two (i32 t)) := g4
  have pre : ∀ q, (fX5_byteOf x k (B + 25) (i32 j) (i32 w) M = (if kd = 1 then fX5_byteOf_106 x k (B + 25) (i32 w) (i32 kd) (i32 to) (i32 t) M4 else if kd = 5 then fX5_byteOf_106 x k (B + 25) (i32 w) (i32 kd) (i32 to) (i32 t) M4 else fX5_byteOf_112 x k (B + 25) (i32 w) (i32 kd) (i32 to) (i32 t) M4)) ∨ q = 0 := by
    intro q
    refine Or.inl ?_
    unfold fX5_byteOf
    by_cases c1 : kd = 1
    · rw [if_pos c1]
      repeat (first
        | (with_reducible refine e_l1 ?_)
        | ((with_reducible refine e_k ?_ (mkM h) ?_); focus rfl)
        | ((with_reducible refine e_p ?_ (mp1 h) ?_); focus rfl)
        | ((with_reducible refine e_p ?_ (mp2 h) ?_); focus rfl)
        | ((with_reducible refine e_p ?_ (mp3 h) ?_); focus rfl)
        | ((with_reducible refine e_p ?_ (mp4 h) ?_); focus rfl)
        | ((with_reducible refine e_p ?_ (mp5 h) ?_); focus rfl)
        | ((with_reducible refine e_p ?_ (mp6 h) ?_); focus rfl)
        | ((with_reducible refine e_p ?_ (mp7 h) ?_); focus rfl)
        | ((with_reducible refine e_p ?_ (mp8 h) ?_); focus rfl)
        | ((with_reducible refine e_p ?_ (mp9 h) ?_); focus rfl)
        | ((with_reducible refine e_p ?_ (mp10 h) ?_); focus rfl)
        | ((with_reducible refine e_p ?_ (mp11 h) ?_); focus rfl)
        | ((with_reducible refine e_p ?_ (mp12 h) ?_); focus rfl)
        | ((with_reducible refine e_p ?_ (mp13 h) ?_); focus rfl)
        | ((with_reducible refine e_p ?_ (mp14 h) ?_); focus rfl)
        | ((with_reducible refine e_p ?_ (mp15 h) ?_); focus rfl)
        | ((with_reducible refine e_p ?_ (mp16 h) ?_); focus rfl)
        | ((with_reducible refine e_p ?_ (mp17 h) ?_); focus rfl)
        | ((with_reducible refine e_p ?_ (mp18 h) ?_); focus rfl)
        | ((with_reducible refine e_p ?_ (mp19 h) ?_); focus rfl)
        | ((with_reducible refine e_p ?_ (mp20 h) ?_); focus rfl)
        | ((with_reducible refine e_p ?_ (mp21 h) ?_); focus rfl)
        | ((with_reducible refine e_k ?_ (mkM h1) ?_); focus rfl)
        | ((with_reducible refine e_p ?_ (mp1 h1) ?_); focus rfl)
        | ((with_reducible refine e_p ?_ (mp2 h1) ?_); focus rfl)
        | ((with_reducible refine e_p ?_ (mp3 h1) ?_); focus rfl)
        | ((with_reducible refine e_p ?_ (mp4 h1) ?_); focus rfl)
        | ((with_reducible refine e_p ?_ (mp5 h1) ?_); focus rfl)
        | ((with_reducible refine e_p ?_ (mp6 h1) ?_); focus rfl)
        | ((with_reducible refine e_p ?_ (mp7 h1) ?_); focus rfl)
        | ((with_reducible refine e_p ?_ (mp8 h1) ?_); focus rfl)
        | ((with_reducible refine e_p ?_ (mp9 h1) ?_); focus rfl)
        | ((with_reducible refine e_p ?_ (mp10 h1) ?_); focus rfl)
        | ((with_reducible refine e_p ?_ (mp11 h1) ?_); focus rfl)
        | ((with_reducible refine e_p ?_ (mp12 h1) ?_); focus rfl)
        | ((with_reducible refine e_p ?_ (mp13 h1) ?_); focus rfl)
        | ((with_reducible refine e_p ?_ (mp14 h1) ?_); focus rfl)
        | ((with_reducible refine e_p ?_ (mp15 h1) ?_); focus rfl)
        | ((with_reducible refine e_p ?_ (mp16 h1) ?_); focus rfl)
        | ((with_reducible refine e_p ?_ (mp17 h1) ?_); focus rfl)
        | ((with_reducible refine e_p ?_ (mp18 h1) ?_); focus rfl)
        | ((with_reducible refine e_p ?_ (mp19 h1) ?_); focus rfl)
        | ((with_reducible refine e_p ?_ (mp20 h1) ?_); focus rfl)
        | ((with_reducible refine e_p ?_ (mp21 h1) ?_); focus rfl)
        | ((with_reducible refine e_k ?_ (mkM h2) ?_); focus rfl)
        | ((with_reducible refine e_p ?_ (mp1 h2) ?_); focus rfl)
        | ((with_reducible refine e_p ?_ (mp2 h2) ?_); focus rfl)
        | ((with_reducible refine e_p ?_ (mp3 h2) ?_); focus rfl)
        | ((with_reducible refine e_p ?_ (mp4 h2) ?_); focus rfl)
        | ((with_reducible refine e_p ?_ (mp5 h2) ?_); focus rfl)
        | ((with_reducible refine e_p ?_ (mp6 h2) ?_); focus rfl)
        | ((with_reducible refine e_p ?_ (mp7 h2) ?_); focus rfl)
        | ((with_reducible refine e_p ?_ (mp8 h2) ?_); focus rfl)
        | ((with_reducible refine e_p ?_ (mp9 h2) ?_); focus rfl)
        | ((with_reducible refine e_p ?_ (mp10 h2) ?_); focus rfl)
        | ((with_reducible refine e_p ?_ (mp11 h2) ?_); focus rfl)
        | ((with_reducible refine e_p ?_ (mp12 h2) ?_); focus rfl)
        | ((with_reducible refine e_p ?_ (mp13 h2) ?_); focus rfl)
        | ((with_reducible refine e_p ?_ (mp14 h2) ?_); focus rfl)
        | ((with_reducible refine e_p ?_ (mp15 h2) ?_); focus rfl)
        | ((with_reducible refine e_p ?_ (mp16 h2) ?_); focus rfl)
        | ((with_reducible refine e_p ?_ (mp17 h2) ?_); focus rfl)
        | ((with_reducible refine e_p ?_ (mp18 h2) ?_); focus rfl)
        | ((with_reducible refine e_p ?_ (mp19 h2) ?_); focus rfl)
        | ((with_reducible refine e_p ?_ (mp20 h2) ?_); focus rfl)
        | ((with_reducible refine e_p ?_ (mp21 h2) ?_); focus rfl)
        | ((with_reducible refine e_k ?_ (mkM h3) ?_); focus rfl)
        | ((with_reducible refine e_p ?_ (mp1 h3) ?_); focus rfl)
        | ((with_reducible refine e_p ?_ (mp2 h3) ?_); focus rfl)
        | ((with_reducible refine e_p ?_ (mp3 h3) ?_); focus rfl)
        | ((with_reducible refine e_p ?_ (mp4 h3) ?_); focus rfl)
        | ((with_reducible refine e_p ?_ (mp5 h3) ?_); focus rfl)
        | ((with_reducible refine e_p ?_ (mp6 h3) ?_); focus rfl)
        | ((with_reducible refine e_p ?_ (mp7 h3) ?_); focus rfl)
        | ((with_reducible refine e_p ?_ (mp8 h3) ?_); focus rfl)
        | ((with_reducible refine e_p ?_ (mp9 h3) ?_); focus rfl)
        | ((with_reducible refine e_p ?_ (mp10 h3) ?_); focus rfl)
        | ((with_reducible refine e_p ?_ (mp11 h3) ?_); focus rfl)
        | ((with_reducible refine e_p ?_ (mp12 h3) ?_); focus rfl)
        | ((with_reducible refine e_p ?_ (mp13 h3) ?_); focus rfl)
        | ((with_reducible refine e_p ?_ (mp14 h3) ?_); focus rfl)
        | ((with_reducible refine e_p ?_ (mp15 h3) ?_); focus rfl)
        | ((with_reducible refine e_p ?_ (mp16 h3) ?_); focus rfl)
        | ((with_reducible refine e_p ?_ (mp17 h3) ?_); focus rfl)
        | ((with_reducible refine e_p ?_ (mp18 h3) ?_); focus rfl)
        | ((with_reducible refine e_p ?_ (mp19 h3) ?_); focus rfl)
        | ((with_reducible refine e_p ?_ (mp20 h3) ?_); focus rfl)
        | ((with_reducible refine e_p ?_ (mp21 h3) ?_); focus rfl)
        | ((with_reducible refine e_o2 ?_ f0 ?_); focus (first | with_reducible rfl | (simp (disch := omega) only [b_all, sV_all, ↓reduceIte, Nat.reduceEqDiff, Nat.reduceLT, Nat.reduceLeDiff, Nat.reduceAdd, Nat.reduceMul, Nat.reduceSub, i_lit, eq_self, and_true, true_and, and_self, not_true_eq_false, not_false_eq_true, or_true, true_or, or_false, false_or, false_and, and_false, reduceCtorEq, Nat.add_left_cancel_iff, Nat.add_zero, Nat.zero_add, md_all h, md_all h1, md_all h2, md_all h3, e0, n1, e2, e3]; done)))
        | ((with_reducible refine e_o2 ?_ q1 ?_); focus (first | with_reducible rfl | (simp (disch := omega) only [b_all, sV_all, ↓reduceIte, Nat.reduceEqDiff, Nat.reduceLT, Nat.reduceLeDiff, Nat.reduceAdd, Nat.reduceMul, Nat.reduceSub, i_lit, eq_self, and_true, true_and, and_self, not_true_eq_false, not_false_eq_true, or_true, true_or, or_false, false_or, false_and, and_false, reduceCtorEq, Nat.add_left_cancel_iff, Nat.add_zero, Nat.zero_add, md_all h, md_all h1, md_all h2, md_all h3, e0, n1, e2, e3]; done)))
        | ((with_reducible refine e_o2 ?_ q2 ?_); focus (first | with_reducible rfl | (simp (disch := omega) only [b_all, sV_all, ↓reduceIte, Nat.reduceEqDiff, Nat.reduceLT, Nat.reduceLeDiff, Nat.reduceAdd, Nat.reduceMul, Nat.reduceSub, i_lit, eq_self, and_true, true_and, and_self, not_true_eq_false, not_false_eq_true, or_true, true_or, or_false, false_or, false_and, and_false, reduceCtorEq, Nat.add_left_cancel_iff, Nat.add_zero, Nat.zero_add, md_all h, md_all h1, md_all h2, md_all h3, e0, n1, e2, e3]; done)))
        | ((with_reducible refine e_o2 ?_ q3 ?_); focus (first | with_reducible rfl | (simp (disch := omega) only [b_all, sV_all, ↓reduceIte, Nat.reduceEqDiff, Nat.reduceLT, Nat.reduceLeDiff, Nat.reduceAdd, Nat.reduceMul, Nat.reduceSub, i_lit, eq_self, and_true, true_and, and_self, not_true_eq_false, not_false_eq_true, or_true, true_or, or_false, false_or, false_and, and_false, reduceCtorEq, Nat.add_left_cancel_iff, Nat.add_zero, Nat.zero_add, md_all h, md_all h1, md_all h2, md_all h3, e0, n1, e2, e3]; done)))
        | ((with_reducible refine e_o2 ?_ q4 ?_); focus (first | with_reducible rfl | (simp (disch := omega) only [b_all, sV_all, ↓reduceIte, Nat.reduceEqDiff, Nat.reduceLT, Nat.reduceLeDiff, Nat.reduceAdd, Nat.reduceMul, Nat.reduceSub, i_lit, eq_self, and_true, true_and, and_self, not_true_eq_false, not_false_eq_true, or_true, true_or, or_false, false_or, false_and, and_false, reduceCtorEq, Nat.add_left_cancel_iff, Nat.add_zero, Nat.zero_add, md_all h, md_all h1, md_all h2, md_all h3, e0, n1, e2, e3]; done)))
        | ((with_reducible refine e_ip ?_ ?_); focus (simp (disch := omega) only [b_all, sV_all, ↓reduceIte, Nat.reduceEqDiff, Nat.reduceLT, Nat.reduceLeDiff, Nat.reduceAdd, Nat.reduceMul, Nat.reduceSub, i_lit, eq_self, and_true, true_and, and_self, not_true_eq_false, not_false_eq_true, or_true, true_or, or_false, false_or, false_and, and_false, reduceCtorEq, Nat.add_left_cancel_iff, Nat.add_zero, Nat.zero_add, md_all h, md_all h1, md_all h2, md_all h3, e0, n1, e2, e3]; done))
        | ((with_reducible refine e_in ?_ ?_); focus (simp (disch := omega) only [b_all, sV_all, ↓reduceIte, Nat.reduceEqDiff, Nat.reduceLT, Nat.reduceLeDiff, Nat.reduceAdd, Nat.reduceMul, Nat.reduceSub, i_lit, eq_self, and_true, true_and, and_self, not_true_eq_false, not_false_eq_true, or_true, true_or, or_false, false_or, false_and, and_false, reduceCtorEq, Nat.add_left_cancel_iff, Nat.add_zero, Nat.zero_add, md_all h, md_all h1, md_all h2, md_all h3, e0, n1, e2, e3]; done))
        | unfold fX5_byteOf_13
        | unfold fX5_byteOf_18
        | fail)
      first | with_reducible rfl | simp (disch := omega) only [b_all, sV_all, ↓reduceIte, Nat.reduceEqDiff, Nat.reduceLT, Nat.reduceLeDiff, Nat.reduceAdd, Nat.reduceMul, Nat.reduceSub, i_lit, eq_self, and_true, true_and, and_self, not_true_eq_false, not_false_eq_true, or_true, true_or, or_false, false_or, false_and, and_false, reduceCtorEq, Nat.add_left_cancel_iff, Nat.add_zero, Nat.zero_add, md_all h, md_all h1, md_all h2, md_all h3, e0, n1, e2, e3]
    · rw [if_neg c1]
      by_cases c5 : kd = 5
      · rw [if_pos c5]
        repeat (first
          | (with_reducible refine e_l1 ?_)
          | ((with_reducible refine e_k ?_ (mkM h) ?_); focus rfl)
          | ((with_reducible refine e_p ?_ (mp1 h) ?_); focus rfl)
          | ((with_reducible refine e_p ?_ (mp2 h) ?_); focus rfl)
          | ((with_reducible refine e_p ?_ (mp3 h) ?_); focus rfl)
          | ((with_reducible refine e_p ?_ (mp4 h) ?_); focus rfl)
          | ((with_reducible refine e_p ?_ (mp5 h) ?_); focus rfl)
          | ((with_reducible refine e_p ?_ (mp6 h) ?_); focus rfl)
          | ((with_reducible refine e_p ?_ (mp7 h) ?_); focus rfl)
          | ((with_reducible refine e_p ?_ (mp8 h) ?_); focus rfl)
          | ((with_reducible refine e_p ?_ (mp9 h) ?_); focus rfl)
          | ((with_reducible refine e_p ?_ (mp10 h) ?_); focus rfl)
          | ((with_reducible refine e_p ?_ (mp11 h) ?_); focus rfl)
          | ((with_reducible refine e_p ?_ (mp12 h) ?_); focus rfl)
          | ((with_reducible refine e_p ?_ (mp13 h) ?_); focus rfl)
          | ((with_reducible refine e_p ?_ (mp14 h) ?_); focus rfl)
          | ((with_reducible refine e_p ?_ (mp15 h) ?_); focus rfl)
          | ((with_reducible refine e_p ?_ (mp16 h) ?_); focus rfl)
          | ((with_reducible refine e_p ?_ (mp17 h) ?_); focus rfl)
          | ((with_reducible refine e_p ?_ (mp18 h) ?_); focus rfl)
          | ((with_reducible refine e_p ?_ (mp19 h) ?_); focus rfl)
          | ((with_reducible refine e_p ?_ (mp20 h) ?_); focus rfl)
          | ((with_reducible refine e_p ?_ (mp21 h) ?_); focus rfl)
          | ((with_reducible refine e_k ?_ (mkM h1) ?_); focus rfl)
          | ((with_reducible refine e_p ?_ (mp1 h1) ?_); focus rfl)
          | ((with_reducible refine e_p ?_ (mp2 h1) ?_); focus rfl)
          | ((with_reducible refine e_p ?_ (mp3 h1) ?_); focus rfl)
          | ((with_reducible refine e_p ?_ (mp4 h1) ?_); focus rfl)
          | ((with_reducible refine e_p ?_ (mp5 h1) ?_); focus rfl)
          | ((with_reducible refine e_p ?_ (mp6 h1) ?_); focus rfl)
          | ((with_reducible refine e_p ?_ (mp7 h1) ?_); focus rfl)
          | ((with_reducible refine e_p ?_ (mp8 h1) ?_); focus rfl)
          | ((with_reducible refine e_p ?_ (mp9 h1) ?_); focus rfl)
          | ((with_reducible refine e_p ?_ (mp10 h1) ?_); focus rfl)
          | ((with_reducible refine e_p ?_ (mp11 h1) ?_); focus rfl)
          | ((with_reducible refine e_p ?_ (mp12 h1) ?_); focus rfl)
          | ((with_reducible refine e_p ?_ (mp13 h1) ?_); focus rfl)
          | ((with_reducible refine e_p ?_ (mp14 h1) ?_); focus rfl)
          | ((with_reducible refine e_p ?_ (mp15 h1) ?_); focus rfl)
          | ((with_reducible refine e_p ?_ (mp16 h1) ?_); focus rfl)
          | ((with_reducible refine e_p ?_ (mp17 h1) ?_); focus rfl)
          | ((with_reducible refine e_p ?_ (mp18 h1) ?_); focus rfl)
          | ((with_reducible refine e_p ?_ (mp19 h1) ?_); focus rfl)
          | ((with_reducible refine e_p ?_ (mp20 h1) ?_); focus rfl)
          | ((with_reducible refine e_p ?_ (mp21 h1) ?_); focus rfl)
          | ((with_reducible refine e_k ?_ (mkM h2) ?_); focus rfl)
          | ((with_reducible refine e_p ?_ (mp1 h2) ?_); focus rfl)
          | ((with_reducible refine e_p ?_ (mp2 h2) ?_); focus rfl)
          | ((with_reducible refine e_p ?_ (mp3 h2) ?_); focus rfl)
          | ((with_reducible refine e_p ?_ (mp4 h2) ?_); focus rfl)
          | ((with_reducible refine e_p ?_ (mp5 h2) ?_); focus rfl)
          | ((with_reducible refine e_p ?_ (mp6 h2) ?_); focus rfl)
          | ((with_reducible refine e_p ?_ (mp7 h2) ?_); focus rfl)
          | ((with_reducible refine e_p ?_ (mp8 h2) ?_); focus rfl)
          | ((with_reducible refine e_p ?_ (mp9 h2) ?_); focus rfl)
          | ((with_reducible refine e_p ?_ (mp10 h2) ?_); focus rfl)
          | ((with_reducible refine e_p ?_ (mp11 h2) ?_); focus rfl)
          | ((with_reducible refine e_p ?_ (mp12 h2) ?_); focus rfl)
          | ((with_reducible refine e_p ?_ (mp13 h2) ?_); focus rfl)
          | ((with_reducible refine e_p ?_ (mp14 h2) ?_); focus rfl)
          | ((with_reducible refine e_p ?_ (mp15 h2) ?_); focus rfl)
          | ((with_reducible refine e_p ?_ (mp16 h2) ?_); focus rfl)
          | ((with_reducible refine e_p ?_ (mp17 h2) ?_); focus rfl)
          | ((with_reducible refine e_p ?_ (mp18 h2) ?_); focus rfl)
          | ((with_reducible refine e_p ?_ (mp19 h2) ?_); focus rfl)
          | ((with_reducible refine e_p ?_ (mp20 h2) ?_); focus rfl)
          | ((with_reducible refine e_p ?_ (mp21 h2) ?_); focus rfl)
          | ((with_reducible refine e_k ?_ (mkM h3) ?_); focus rfl)
          | ((with_reducible refine e_p ?_ (mp1 h3) ?_); focus rfl)
          | ((with_reducible refine e_p ?_ (mp2 h3) ?_); focus rfl)
          | ((with_reducible refine e_p ?_ (mp3 h3) ?_); focus rfl)
          | ((with_reducible refine e_p ?_ (mp4 h3) ?_); focus rfl)
          | ((with_reducible refine e_p ?_ (mp5 h3) ?_); focus rfl)
          | ((with_reducible refine e_p ?_ (mp6 h3) ?_); focus rfl)
          | ((with_reducible refine e_p ?_ (mp7 h3) ?_); focus rfl)
          | ((with_reducible refine e_p ?_ (mp8 h3) ?_); focus rfl)
          | ((with_reducible refine e_p ?_ (mp9 h3) ?_); focus rfl)
          | ((with_reducible refine e_p ?_ (mp10 h3) ?_); focus rfl)
          | ((with_reducible refine e_p ?_ (mp11 h3) ?_); focus rfl)
          | ((with_reducible refine e_p ?_ (mp12 h3) ?_); focus rfl)
          | ((with_reducible refine e_p ?_ (mp13 h3) ?_); focus rfl)
          | ((with_reducible refine e_p ?_ (mp14 h3) ?_); focus rfl)
          | ((with_reducible refine e_p ?_ (mp15 h3) ?_); focus rfl)
          | ((with_reducible refine e_p ?_ (mp16 h3) ?_); focus rfl)
          | ((with_reducible refine e_p ?_ (mp17 h3) ?_); focus rfl)
          | ((with_reducible refine e_p ?_ (mp18 h3) ?_); focus rfl)
          | ((with_reducible refine e_p ?_ (mp19 h3) ?_); focus rfl)
          | ((with_reducible refine e_p ?_ (mp20 h3) ?_); focus rfl)
          | ((with_reducible refine e_p ?_ (mp21 h3) ?_); focus rfl)
          | ((with_reducible refine e_o2 ?_ f0 ?_); focus (first | with_reducible rfl | (simp (disch := omega) only [b_all, sV_all, ↓reduceIte, Nat.reduceEqDiff, Nat.reduceLT, Nat.reduceLeDiff, Nat.reduceAdd, Nat.reduceMul, Nat.reduceSub, i_lit, eq_self, and_true, true_and, and_self, not_true_eq_false, not_false_eq_true, or_true, true_or, or_false, false_or, false_and, and_false, reduceCtorEq, Nat.add_left_cancel_iff, Nat.add_zero, Nat.zero_add, md_all h, md_all h1, md_all h2, md_all h3, e0, n1, e2, e3]; done)))
          | ((with_reducible refine e_o2 ?_ q1 ?_); focus (first | with_reducible rfl | (simp (disch := omega) only [b_all, sV_all, ↓reduceIte, Nat.reduceEqDiff, Nat.reduceLT, Nat.reduceLeDiff, Nat.reduceAdd, Nat.reduceMul, Nat.reduceSub, i_lit, eq_self, and_true, true_and, and_self, not_true_eq_false, not_false_eq_true, or_true, true_or, or_false, false_or, false_and, and_false, reduceCtorEq, Nat.add_left_cancel_iff, Nat.add_zero, Nat.zero_add, md_all h, md_all h1, md_all h2, md_all h3, e0, n1, e2, e3]; done)))
          | ((with_reducible refine e_o2 ?_ q2 ?_); focus (first | with_reducible rfl | (simp (disch := omega) only [b_all, sV_all, ↓reduceIte, Nat.reduceEqDiff, Nat.reduceLT, Nat.reduceLeDiff, Nat.reduceAdd, Nat.reduceMul, Nat.reduceSub, i_lit, eq_self, and_true, true_and, and_self, not_true_eq_false, not_false_eq_true, or_true, true_or, or_false, false_or, false_and, and_false, reduceCtorEq, Nat.add_left_cancel_iff, Nat.add_zero, Nat.zero_add, md_all h, md_all h1, md_all h2, md_all h3, e0, n1, e2, e3]; done)))
          | ((with_reducible refine e_o2 ?_ q3 ?_); focus (first | with_reducible rfl | (simp (disch := omega) only [b_all, sV_all, ↓reduceIte, Nat.reduceEqDiff, Nat.reduceLT, Nat.reduceLeDiff, Nat.reduceAdd, Nat.reduceMul, Nat.reduceSub, i_lit, eq_self, and_true, true_and, and_self, not_true_eq_false, not_false_eq_true, or_true, true_or, or_false, false_or, false_and, and_false, reduceCtorEq, Nat.add_left_cancel_iff, Nat.add_zero, Nat.zero_add, md_all h, md_all h1, md_all h2, md_all h3, e0, n1, e2, e3]; done)))
          | ((with_reducible refine e_o2 ?_ q4 ?_); focus (first | with_reducible rfl | (simp (disch := omega) only [b_all, sV_all, ↓reduceIte, Nat.reduceEqDiff, Nat.reduceLT, Nat.reduceLeDiff, Nat.reduceAdd, Nat.reduceMul, Nat.reduceSub, i_lit, eq_self, and_true, true_and, and_self, not_true_eq_false, not_false_eq_true, or_true, true_or, or_false, false_or, false_and, and_false, reduceCtorEq, Nat.add_left_cancel_iff, Nat.add_zero, Nat.zero_add, md_all h, md_all h1, md_all h2, md_all h3, e0, n1, e2, e3]; done)))
          | ((with_reducible refine e_ip ?_ ?_); focus (simp (disch := omega) only [b_all, sV_all, ↓reduceIte, Nat.reduceEqDiff, Nat.reduceLT, Nat.reduceLeDiff, Nat.reduceAdd, Nat.reduceMul, Nat.reduceSub, i_lit, eq_self, and_true, true_and, and_self, not_true_eq_false, not_false_eq_true, or_true, true_or, or_false, false_or, false_and, and_false, reduceCtorEq, Nat.add_left_cancel_iff, Nat.add_zero, Nat.zero_add, md_all h, md_all h1, md_all h2, md_all h3, e0, n1, e2, e3]; done))
          | ((with_reducible refine e_in ?_ ?_); focus (simp (disch := omega) only [b_all, sV_all, ↓reduceIte, Nat.reduceEqDiff, Nat.reduceLT, Nat.reduceLeDiff, Nat.reduceAdd, Nat.reduceMul, Nat.reduceSub, i_lit, eq_self, and_true, true_and, and_self, not_true_eq_false, not_false_eq_true, or_true, true_or, or_false, false_or, false_and, and_false, reduceCtorEq, Nat.add_left_cancel_iff, Nat.add_zero, Nat.zero_add, md_all h, md_all h1, md_all h2, md_all h3, e0, n1, e2, e3]; done))
          | unfold fX5_byteOf_13
          | unfold fX5_byteOf_18
          | fail)
        first | with_reducible rfl | simp (disch := omega) only [b_all, sV_all, ↓reduceIte, Nat.reduceEqDiff, Nat.reduceLT, Nat.reduceLeDiff, Nat.reduceAdd, Nat.reduceMul, Nat.reduceSub, i_lit, eq_self, and_true, true_and, and_self, not_true_eq_false, not_false_eq_true, or_true, true_or, or_false, false_or, false_and, and_false, reduceCtorEq, Nat.add_left_cancel_iff, Nat.add_zero, Nat.zero_add, md_all h, md_all h1, md_all h2, md_all h3, e0, n1, e2, e3]
      · rw [if_neg c5]
        repeat (first
          | (with_reducible refine e_l1 ?_)
          | ((with_reducible refine e_k ?_ (mkM h) ?_); focus rfl)
          | ((with_reducible refine e_p ?_ (mp1 h) ?_); focus rfl)
          | ((with_reducible refine e_p ?_ (mp2 h) ?_); focus rfl)
          | ((with_reducible refine e_p ?_ (mp3 h) ?_); focus rfl)
          | ((with_reducible refine e_p ?_ (mp4 h) ?_); focus rfl)
          | ((with_reducible refine e_p ?_ (mp5 h) ?_); focus rfl)
          | ((with_reducible refine e_p ?_ (mp6 h) ?_); focus rfl)
          | ((with_reducible refine e_p ?_ (mp7 h) ?_); focus rfl)
          | ((with_reducible refine e_p ?_ (mp8 h) ?_); focus rfl)
          | ((with_reducible refine e_p ?_ (mp9 h) ?_); focus rfl)
          | ((with_reducible refine e_p ?_ (mp10 h) ?_); focus rfl)
          | ((with_reducible refine e_p ?_ (mp11 h) ?_); focus rfl)
          | ((with_reducible refine e_p ?_ (mp12 h) ?_); focus rfl)
          | ((with_reducible refine e_p ?_ (mp13 h) ?_); focus rfl)
          | ((with_reducible refine e_p ?_ (mp14 h) ?_); focus rfl)
          | ((with_reducible refine e_p ?_ (mp15 h) ?_); focus rfl)
          | ((with_reducible refine e_p ?_ (mp16 h) ?_); focus rfl)
          | ((with_reducible refine e_p ?_ (mp17 h) ?_); focus rfl)
          | ((with_reducible refine e_p ?_ (mp18 h) ?_); focus rfl)
          | ((with_reducible refine e_p ?_ (mp19 h) ?_); focus rfl)
          | ((with_reducible refine e_p ?_ (mp20 h) ?_); focus rfl)
          | ((with_reducible refine e_p ?_ (mp21 h) ?_); focus rfl)
          | ((with_reducible refine e_k ?_ (mkM h1) ?_); focus rfl)
          | ((with_reducible refine e_p ?_ (mp1 h1) ?_); focus rfl)
          | ((with_reducible refine e_p ?_ (mp2 h1) ?_); focus rfl)
          | ((with_reducible refine e_p ?_ (mp3 h1) ?_); focus rfl)
          | ((with_reducible refine e_p ?_ (mp4 h1) ?_); focus rfl)
          | ((with_reducible refine e_p ?_ (mp5 h1) ?_); focus rfl)
          | ((with_reducible refine e_p ?_ (mp6 h1) ?_); focus rfl)
          | ((with_reducible refine e_p ?_ (mp7 h1) ?_); focus rfl)
          | ((with_reducible refine e_p ?_ (mp8 h1) ?_); focus rfl)
          | ((with_reducible refine e_p ?_ (mp9 h1) ?_); focus rfl)
          | ((with_reducible refine e_p ?_ (mp10 h1) ?_); focus rfl)
          | ((with_reducible refine e_p ?_ (mp11 h1) ?_); focus rfl)
          | ((with_reducible refine e_p ?_ (mp12 h1) ?_); focus rfl)
          | ((with_reducible refine e_p ?_ (mp13 h1) ?_); focus rfl)
          | ((with_reducible refine e_p ?_ (mp14 h1) ?_); focus rfl)
          | ((with_reducible refine e_p ?_ (mp15 h1) ?_); focus rfl)
          | ((with_reducible refine e_p ?_ (mp16 h1) ?_); focus rfl)
          | ((with_reducible refine e_p ?_ (mp17 h1) ?_); focus rfl)
          | ((with_reducible refine e_p ?_ (mp18 h1) ?_); focus rfl)
          | ((with_reducible refine e_p ?_ (mp19 h1) ?_); focus rfl)
          | ((with_reducible refine e_p ?_ (mp20 h1) ?_); focus rfl)
          | ((with_reducible refine e_p ?_ (mp21 h1) ?_); focus rfl)
          | ((with_reducible refine e_k ?_ (mkM h2) ?_); focus rfl)
          | ((with_reducible refine e_p ?_ (mp1 h2) ?_); focus rfl)
          | ((with_reducible refine e_p ?_ (mp2 h2) ?_); focus rfl)
          | ((with_reducible refine e_p ?_ (mp3 h2) ?_); focus rfl)
          | ((with_reducible refine e_p ?_ (mp4 h2) ?_); focus rfl)
          | ((with_reducible refine e_p ?_ (mp5 h2) ?_); focus rfl)
          | ((with_reducible refine e_p ?_ (mp6 h2) ?_); focus rfl)
          | ((with_reducible refine e_p ?_ (mp7 h2) ?_); focus rfl)
          | ((with_reducible refine e_p ?_ (mp8 h2) ?_); focus rfl)
          | ((with_reducible refine e_p ?_ (mp9 h2) ?_); focus rfl)
          | ((with_reducible refine e_p ?_ (mp10 h2) ?_); focus rfl)
          | ((with_reducible refine e_p ?_ (mp11 h2) ?_); focus rfl)
          | ((with_reducible refine e_p ?_ (mp12 h2) ?_); focus rfl)
          | ((with_reducible refine e_p ?_ (mp13 h2) ?_); focus rfl)
          | ((with_reducible refine e_p ?_ (mp14 h2) ?_); focus rfl)
          | ((with_reducible refine e_p ?_ (mp15 h2) ?_); focus rfl)
          | ((with_reducible refine e_p ?_ (mp16 h2) ?_); focus rfl)
          | ((with_reducible refine e_p ?_ (mp17 h2) ?_); focus rfl)
          | ((with_reducible refine e_p ?_ (mp18 h2) ?_); focus rfl)
          | ((with_reducible refine e_p ?_ (mp19 h2) ?_); focus rfl)
          | ((with_reducible refine e_p ?_ (mp20 h2) ?_); focus rfl)
          | ((with_reducible refine e_p ?_ (mp21 h2) ?_); focus rfl)
          | ((with_reducible refine e_k ?_ (mkM h3) ?_); focus rfl)
          | ((with_reducible refine e_p ?_ (mp1 h3) ?_); focus rfl)
          | ((with_reducible refine e_p ?_ (mp2 h3) ?_); focus rfl)
          | ((with_reducible refine e_p ?_ (mp3 h3) ?_); focus rfl)
          | ((with_reducible refine e_p ?_ (mp4 h3) ?_); focus rfl)
          | ((with_reducible refine e_p ?_ (mp5 h3) ?_); focus rfl)
          | ((with_reducible refine e_p ?_ (mp6 h3) ?_); focus rfl)
          | ((with_reducible refine e_p ?_ (mp7 h3) ?_); focus rfl)
          | ((with_reducible refine e_p ?_ (mp8 h3) ?_); focus rfl)
          | ((with_reducible refine e_p ?_ (mp9 h3) ?_); focus rfl)
          | ((with_reducible refine e_p ?_ (mp10 h3) ?_); focus rfl)
          | ((with_reducible refine e_p ?_ (mp11 h3) ?_); focus rfl)
          | ((with_reducible refine e_p ?_ (mp12 h3) ?_); focus rfl)
          | ((with_reducible refine e_p ?_ (mp13 h3) ?_); focus rfl)
          | ((with_reducible refine e_p ?_ (mp14 h3) ?_); focus rfl)
          | ((with_reducible refine e_p ?_ (mp15 h3) ?_); focus rfl)
          | ((with_reducible refine e_p ?_ (mp16 h3) ?_); focus rfl)
          | ((with_reducible refine e_p ?_ (mp17 h3) ?_); focus rfl)
          | ((with_reducible refine e_p ?_ (mp18 h3) ?_); focus rfl)
          | ((with_reducible refine e_p ?_ (mp19 h3) ?_); focus rfl)
          | ((with_reducible refine e_p ?_ (mp20 h3) ?_); focus rfl)
          | ((with_reducible refine e_p ?_ (mp21 h3) ?_); focus rfl)
          | ((with_reducible refine e_o2 ?_ f0 ?_); focus (first | with_reducible rfl | (simp (disch := omega) only [b_all, sV_all, ↓reduceIte, Nat.reduceEqDiff, Nat.reduceLT, Nat.reduceLeDiff, Nat.reduceAdd, Nat.reduceMul, Nat.reduceSub, i_lit, eq_self, and_true, true_and, and_self, not_true_eq_false, not_false_eq_true, or_true, true_or, or_false, false_or, false_and, and_false, reduceCtorEq, Nat.add_left_cancel_iff, Nat.add_zero, Nat.zero_add, md_all h, md_all h1, md_all h2, md_all h3, e0, n1, e2, e3]; done)))
          | ((with_reducible refine e_o2 ?_ q1 ?_); focus (first | with_reducible rfl | (simp (disch := omega) only [b_all, sV_all, ↓reduceIte, Nat.reduceEqDiff, Nat.reduceLT, Nat.reduceLeDiff, Nat.reduceAdd, Nat.reduceMul, Nat.reduceSub, i_lit, eq_self, and_true, true_and, and_self, not_true_eq_false, not_false_eq_true, or_true, true_or, or_false, false_or, false_and, and_false, reduceCtorEq, Nat.add_left_cancel_iff, Nat.add_zero, Nat.zero_add, md_all h, md_all h1, md_all h2, md_all h3, e0, n1, e2, e3]; done)))
          | ((with_reducible refine e_o2 ?_ q2 ?_); focus (first | with_reducible rfl | (simp (disch := omega) only [b_all, sV_all, ↓reduceIte, Nat.reduceEqDiff, Nat.reduceLT, Nat.reduceLeDiff, Nat.reduceAdd, Nat.reduceMul, Nat.reduceSub, i_lit, eq_self, and_true, true_and, and_self, not_true_eq_false, not_false_eq_true, or_true, true_or, or_false, false_or, false_and, and_false, reduceCtorEq, Nat.add_left_cancel_iff, Nat.add_zero, Nat.zero_add, md_all h, md_all h1, md_all h2, md_all h3, e0, n1, e2, e3]; done)))
          | ((with_reducible refine e_o2 ?_ q3 ?_); focus (first | with_reducible rfl | (simp (disch := omega) only [b_all, sV_all, ↓reduceIte, Nat.reduceEqDiff, Nat.reduceLT, Nat.reduceLeDiff, Nat.reduceAdd, Nat.reduceMul, Nat.reduceSub, i_lit, eq_self, and_true, true_and, and_self, not_true_eq_false, not_false_eq_true, or_true, true_or, or_false, false_or, false_and, and_false, reduceCtorEq, Nat.add_left_cancel_iff, Nat.add_zero, Nat.zero_add, md_all h, md_all h1, md_all h2, md_all h3, e0, n1, e2, e3]; done)))
          | ((with_reducible refine e_o2 ?_ q4 ?_); focus (first | with_reducible rfl | (simp (disch := omega) only [b_all, sV_all, ↓reduceIte, Nat.reduceEqDiff, Nat.reduceLT, Nat.reduceLeDiff, Nat.reduceAdd, Nat.reduceMul, Nat.reduceSub, i_lit, eq_self, and_true, true_and, and_self, not_true_eq_false, not_false_eq_true, or_true, true_or, or_false, false_or, false_and, and_false, reduceCtorEq, Nat.add_left_cancel_iff, Nat.add_zero, Nat.zero_add, md_all h, md_all h1, md_all h2, md_all h3, e0, n1, e2, e3]; done)))
          | ((with_reducible refine e_ip ?_ ?_); focus (simp (disch := omega) only [b_all, sV_all, ↓reduceIte, Nat.reduceEqDiff, Nat.reduceLT, Nat.reduceLeDiff, Nat.reduceAdd, Nat.reduceMul, Nat.reduceSub, i_lit, eq_self, and_true, true_and, and_self, not_true_eq_false, not_false_eq_true, or_true, true_or, or_false, false_or, false_and, and_false, reduceCtorEq, Nat.add_left_cancel_iff, Nat.add_zero, Nat.zero_add, md_all h, md_all h1, md_all h2, md_all h3, e0, n1, e2, e3]; done))
          | ((with_reducible refine e_in ?_ ?_); focus (simp (disch := omega) only [b_all, sV_all, ↓reduceIte, Nat.reduceEqDiff, Nat.reduceLT, Nat.reduceLeDiff, Nat.reduceAdd, Nat.reduceMul, Nat.reduceSub, i_lit, eq_self, and_true, true_and, and_self, not_true_eq_false, not_false_eq_true, or_true, true_or, or_false, false_or, false_and, and_false, reduceCtorEq, Nat.add_left_cancel_iff, Nat.add_zero, Nat.zero_add, md_all h, md_all h1, md_all h2, md_all h3, e0, n1, e2, e3]; done))
          | unfold fX5_byteOf_13
          | unfold fX5_byteOf_18
          | fail)
        first | with_reducible rfl | simp (disch := omega) only [b_all, sV_all, ↓reduceIte, Nat.reduceEqDiff, Nat.reduceLT, Nat.reduceLeDiff, Nat.reduceAdd, Nat.reduceMul, Nat.reduceSub, i_lit, eq_self, and_true, true_and, and_self, not_true_eq_false, not_false_eq_true, or_true, true_or, or_false, false_or, false_and, and_false, reduceCtorEq, Nat.add_left_cancel_iff, Nat.add_zero, Nat.zero_add, md_all h, md_all h1, md_all h2, md_all h3, e0, n1, e2, e3]
  have pre' := (pre 1).resolve_right (by omega)
  rw [pre']
  clear pre pre'
  have w00 : t0 W 0 0 = W 0 0 := rfl
  have sB : ∀ n, stB (t0 W) t n = stB W t n := by
    intro n
    induction n with
    | zero => rfl
    | succ n ih => show stB (t0 W) t n ++ _ = stB W t n ++ _; rw [ih]; rfl
  have pE : pB (t0 W) kd to t = pB W kd to t := rfl
  have oB : ∀ n, obB (t0 W) kd t (pB W kd to t) n = obB W kd t (pB W kd to t) n := by
    intro n
    induction n with
    | zero => rfl
    | succ n ih =>
      by_cases c : pB W kd to t n
      · rw [obB_t c, obB_t c, ih]; rfl
      · rw [obB_f c, obB_f c, ih]
  have cB : ∀ n, chB (t0 W) t n = chB W t n := by
    intro n
    induction n with
    | zero => rfl
    | succ n ih => show chB (t0 W) t n ++ _ = chB W t n ++ _; rw [ih]; rfl
  by_cases c1 : kd = 1
  · subst c1
    rw [if_pos rfl]
    obtain ⟨W5, M5, q5, h5, g5⟩ := s_putStart (k := k) hk h4 g4' ht ⟨hb1.1, hb1.2.1⟩ (by show 5 < 250; omega)
    have st := stB_l (t0 W) t (t0 W 0 0)
    obtain ⟨W6, M6, q6, h6, g6⟩ := s_b138 (k := k) (W := t0 W) hk hw ht (kd := 1) (Or.inl rfl) hto ⟨hb1.1, hb1.2.1⟩ h13 h17 (hL.app st.2) (by rw [List.length_append, st.1, w00]; show 5 + _ < 30; omega) h5 g5
    have el : (([bt (i32 1), bt (i32 fr), bt (i32 to)] ++ two (i32 t) ++ stB (t0 W) t (t0 W 0 0)) ++ (ct (pB (t0 W) 1 to t) 20 :: obB (t0 W) 1 t (pB (t0 W) 1 to t) 20)) ++ (if 1 = 5 then bt (i32 (t0 W 17 t)) :: chB (t0 W) t (t0 W 17 t) else []) = allB W 1 fr to t := by
      unfold allB bodyB
      rw [if_neg (by omega), if_pos rfl, List.append_nil, sB, pE, oB, w00, List.append_assoc]
    rw [el] at q6 g6
    refine ⟨W6, M6, ?_, h6, g6⟩
    rw [← q6]
    unfold fX5_byteOf_106
    repeat (first
      | (with_reducible refine e_l1 ?_)
      | ((with_reducible refine e_k ?_ (mkM h4) ?_); focus rfl)
      | ((with_reducible refine e_p ?_ (mp1 h4) ?_); focus rfl)
      | ((with_reducible refine e_p ?_ (mp2 h4) ?_); focus rfl)
      | ((with_reducible refine e_p ?_ (mp3 h4) ?_); focus rfl)
      | ((with_reducible refine e_p ?_ (mp4 h4) ?_); focus rfl)
      | ((with_reducible refine e_p ?_ (mp5 h4) ?_); focus rfl)
      | ((with_reducible refine e_p ?_ (mp6 h4) ?_); focus rfl)
      | ((with_reducible refine e_p ?_ (mp7 h4) ?_); focus rfl)
      | ((with_reducible refine e_p ?_ (mp8 h4) ?_); focus rfl)
      | ((with_reducible refine e_p ?_ (mp9 h4) ?_); focus rfl)
      | ((with_reducible refine e_p ?_ (mp10 h4) ?_); focus rfl)
      | ((with_reducible refine e_p ?_ (mp11 h4) ?_); focus rfl)
      | ((with_reducible refine e_p ?_ (mp12 h4) ?_); focus rfl)
      | ((with_reducible refine e_p ?_ (mp13 h4) ?_); focus rfl)
      | ((with_reducible refine e_p ?_ (mp14 h4) ?_); focus rfl)
      | ((with_reducible refine e_p ?_ (mp15 h4) ?_); focus rfl)
      | ((with_reducible refine e_p ?_ (mp16 h4) ?_); focus rfl)
      | ((with_reducible refine e_p ?_ (mp17 h4) ?_); focus rfl)
      | ((with_reducible refine e_p ?_ (mp18 h4) ?_); focus rfl)
      | ((with_reducible refine e_p ?_ (mp19 h4) ?_); focus rfl)
      | ((with_reducible refine e_p ?_ (mp20 h4) ?_); focus rfl)
      | ((with_reducible refine e_p ?_ (mp21 h4) ?_); focus rfl)
      | ((with_reducible refine e_o2 ?_ q5 ?_); focus (first | with_reducible rfl | (simp (disch := omega) only [b_all, sV_all, ↓reduceIte, Nat.reduceEqDiff, Nat.reduceLT, Nat.reduceLeDiff, Nat.reduceAdd, Nat.reduceMul, Nat.reduceSub, i_lit, eq_self, and_true, true_and, and_self, not_true_eq_false, not_false_eq_true, or_true, true_or, or_false, false_or, false_and, and_false, reduceCtorEq, Nat.add_left_cancel_iff, Nat.add_zero, Nat.zero_add, md_all h4]; done)))
      | ((with_reducible refine e_ip ?_ ?_); focus (simp (disch := omega) only [b_all, sV_all, ↓reduceIte, Nat.reduceEqDiff, Nat.reduceLT, Nat.reduceLeDiff, Nat.reduceAdd, Nat.reduceMul, Nat.reduceSub, i_lit, eq_self, and_true, true_and, and_self, not_true_eq_false, not_false_eq_true, or_true, true_or, or_false, false_or, false_and, and_false, reduceCtorEq, Nat.add_left_cancel_iff, Nat.add_zero, Nat.zero_add, md_all h4]; done))
      | ((with_reducible refine e_in ?_ ?_); focus (simp (disch := omega) only [b_all, sV_all, ↓reduceIte, Nat.reduceEqDiff, Nat.reduceLT, Nat.reduceLeDiff, Nat.reduceAdd, Nat.reduceMul, Nat.reduceSub, i_lit, eq_self, and_true, true_and, and_self, not_true_eq_false, not_false_eq_true, or_true, true_or, or_false, false_or, false_and, and_false, reduceCtorEq, Nat.add_left_cancel_iff, Nat.add_zero, Nat.zero_add, md_all h4]; done))
      | unfold fX5_byteOf_112
      | unfold fX5_byteOf_128
      | fail)
    first | with_reducible rfl | simp (disch := omega) only [b_all, sV_all, ↓reduceIte, Nat.reduceEqDiff, Nat.reduceLT, Nat.reduceLeDiff, Nat.reduceAdd, Nat.reduceMul, Nat.reduceSub, i_lit, eq_self, and_true, true_and, and_self, not_true_eq_false, not_false_eq_true, or_true, true_or, or_false, false_or, false_and, and_false, reduceCtorEq, Nat.add_left_cancel_iff, Nat.add_zero, Nat.zero_add, md_all h4]
  · rw [if_neg c1]
    by_cases c5 : kd = 5
    · subst c5
      rw [if_pos rfl]
      obtain ⟨W5, M5, q5, h5, g5⟩ := s_putStart (k := k) hk h4 g4' ht ⟨hb1.1, hb1.2.1⟩ (by show 5 < 250; omega)
      have st := stB_l (t0 W) t (t0 W 0 0)
      have n6 : W5 6 t = W 6 t := by rw [g5.1 _ _ (by omega) (by omega)]; rfl
      obtain ⟨W7, M7, q7, h7, g7⟩ := s_putTwo (k := k) h5 g5 (by rw [List.length_append, st.1, w00]; show 5 + _ < 299; omega) (i32 (W 6 t))
      obtain ⟨W6, M6, q6, h6, g6⟩ := s_b138 (k := k) (W := t0 W) hk hw ht (kd := 5) (Or.inr rfl) hto ⟨hb1.1, hb1.2.1⟩ h13 h17 ((hL.app st.2).app (two_by _)) (by rw [List.length_append, List.length_append, st.1, w00]; show 5 + _ + 2 < 30; omega) h7 g7
      have el : (([bt (i32 5), bt (i32 fr), bt (i32 to)] ++ two (i32 t) ++ stB (t0 W) t (t0 W 0 0) ++ two (i32 (W 6 t))) ++ (ct (pB (t0 W) 5 to t) 20 :: obB (t0 W) 5 t (pB (t0 W) 5 to t) 20)) ++ (if 5 = 5 then bt (i32 (t0 W 17 t)) :: chB (t0 W) t (t0 W 17 t) else []) = allB W 5 fr to t := by
        have w17 : t0 W 17 t = W 17 t := rfl
        unfold allB bodyB
        rw [if_pos rfl, if_neg (by omega), if_pos rfl, sB, pE, oB, cB, w00, w17]
        simp only [List.append_assoc]
      rw [el] at q6 g6
      refine ⟨W6, M6, ?_, h6, g6⟩
      rw [← q6]
      unfold fX5_byteOf_106
      repeat (first
        | (with_reducible refine e_l1 ?_)
        | ((with_reducible refine e_k ?_ (mkM h4) ?_); focus rfl)
        | ((with_reducible refine e_p ?_ (mp1 h4) ?_); focus rfl)
        | ((with_reducible refine e_p ?_ (mp2 h4) ?_); focus rfl)
        | ((with_reducible refine e_p ?_ (mp3 h4) ?_); focus rfl)
        | ((with_reducible refine e_p ?_ (mp4 h4) ?_); focus rfl)
        | ((with_reducible refine e_p ?_ (mp5 h4) ?_); focus rfl)
        | ((with_reducible refine e_p ?_ (mp6 h4) ?_); focus rfl)
        | ((with_reducible refine e_p ?_ (mp7 h4) ?_); focus rfl)
        | ((with_reducible refine e_p ?_ (mp8 h4) ?_); focus rfl)
        | ((with_reducible refine e_p ?_ (mp9 h4) ?_); focus rfl)
        | ((with_reducible refine e_p ?_ (mp10 h4) ?_); focus rfl)
        | ((with_reducible refine e_p ?_ (mp11 h4) ?_); focus rfl)
        | ((with_reducible refine e_p ?_ (mp12 h4) ?_); focus rfl)
        | ((with_reducible refine e_p ?_ (mp13 h4) ?_); focus rfl)
        | ((with_reducible refine e_p ?_ (mp14 h4) ?_); focus rfl)
        | ((with_reducible refine e_p ?_ (mp15 h4) ?_); focus rfl)
        | ((with_reducible refine e_p ?_ (mp16 h4) ?_); focus rfl)
        | ((with_reducible refine e_p ?_ (mp17 h4) ?_); focus rfl)
        | ((with_reducible refine e_p ?_ (mp18 h4) ?_); focus rfl)
        | ((with_reducible refine e_p ?_ (mp19 h4) ?_); focus rfl)
        | ((with_reducible refine e_p ?_ (mp20 h4) ?_); focus rfl)
        | ((with_reducible refine e_p ?_ (mp21 h4) ?_); focus rfl)
        | ((with_reducible refine e_k ?_ (mkM h5) ?_); focus rfl)
        | ((with_reducible refine e_p ?_ (mp1 h5) ?_); focus rfl)
        | ((with_reducible refine e_p ?_ (mp2 h5) ?_); focus rfl)
        | ((with_reducible refine e_p ?_ (mp3 h5) ?_); focus rfl)
        | ((with_reducible refine e_p ?_ (mp4 h5) ?_); focus rfl)
        | ((with_reducible refine e_p ?_ (mp5 h5) ?_); focus rfl)
        | ((with_reducible refine e_p ?_ (mp6 h5) ?_); focus rfl)
        | ((with_reducible refine e_p ?_ (mp7 h5) ?_); focus rfl)
        | ((with_reducible refine e_p ?_ (mp8 h5) ?_); focus rfl)
        | ((with_reducible refine e_p ?_ (mp9 h5) ?_); focus rfl)
        | ((with_reducible refine e_p ?_ (mp10 h5) ?_); focus rfl)
        | ((with_reducible refine e_p ?_ (mp11 h5) ?_); focus rfl)
        | ((with_reducible refine e_p ?_ (mp12 h5) ?_); focus rfl)
        | ((with_reducible refine e_p ?_ (mp13 h5) ?_); focus rfl)
        | ((with_reducible refine e_p ?_ (mp14 h5) ?_); focus rfl)
        | ((with_reducible refine e_p ?_ (mp15 h5) ?_); focus rfl)
        | ((with_reducible refine e_p ?_ (mp16 h5) ?_); focus rfl)
        | ((with_reducible refine e_p ?_ (mp17 h5) ?_); focus rfl)
        | ((with_reducible refine e_p ?_ (mp18 h5) ?_); focus rfl)
        | ((with_reducible refine e_p ?_ (mp19 h5) ?_); focus rfl)
        | ((with_reducible refine e_p ?_ (mp20 h5) ?_); focus rfl)
        | ((with_reducible refine e_p ?_ (mp21 h5) ?_); focus rfl)
        | ((with_reducible refine e_o2 ?_ q5 ?_); focus (first | with_reducible rfl | (simp (disch := omega) only [b_all, sV_all, ↓reduceIte, Nat.reduceEqDiff, Nat.reduceLT, Nat.reduceLeDiff, Nat.reduceAdd, Nat.reduceMul, Nat.reduceSub, i_lit, eq_self, and_true, true_and, and_self, not_true_eq_false, not_false_eq_true, or_true, true_or, or_false, false_or, false_and, and_false, reduceCtorEq, Nat.add_left_cancel_iff, Nat.add_zero, Nat.zero_add, md_all h4, md_all h5, n6]; done)))
        | ((with_reducible refine e_o2 ?_ q7 ?_); focus (first | with_reducible rfl | (simp (disch := omega) only [b_all, sV_all, ↓reduceIte, Nat.reduceEqDiff, Nat.reduceLT, Nat.reduceLeDiff, Nat.reduceAdd, Nat.reduceMul, Nat.reduceSub, i_lit, eq_self, and_true, true_and, and_self, not_true_eq_false, not_false_eq_true, or_true, true_or, or_false, false_or, false_and, and_false, reduceCtorEq, Nat.add_left_cancel_iff, Nat.add_zero, Nat.zero_add, md_all h4, md_all h5, n6]; done)))
        | ((with_reducible refine e_ip ?_ ?_); focus (simp (disch := omega) only [b_all, sV_all, ↓reduceIte, Nat.reduceEqDiff, Nat.reduceLT, Nat.reduceLeDiff, Nat.reduceAdd, Nat.reduceMul, Nat.reduceSub, i_lit, eq_self, and_true, true_and, and_self, not_true_eq_false, not_false_eq_true, or_true, true_or, or_false, false_or, false_and, and_false, reduceCtorEq, Nat.add_left_cancel_iff, Nat.add_zero, Nat.zero_add, md_all h4, md_all h5, n6]; done))
        | ((with_reducible refine e_in ?_ ?_); focus (simp (disch := omega) only [b_all, sV_all, ↓reduceIte, Nat.reduceEqDiff, Nat.reduceLT, Nat.reduceLeDiff, Nat.reduceAdd, Nat.reduceMul, Nat.reduceSub, i_lit, eq_self, and_true, true_and, and_self, not_true_eq_false, not_false_eq_true, or_true, true_or, or_false, false_or, false_and, and_false, reduceCtorEq, Nat.add_left_cancel_iff, Nat.add_zero, Nat.zero_add, md_all h4, md_all h5, n6]; done))
        | unfold fX5_byteOf_112
        | unfold fX5_byteOf_128
        | fail)
      first | with_reducible rfl | simp (disch := omega) only [b_all, sV_all, ↓reduceIte, Nat.reduceEqDiff, Nat.reduceLT, Nat.reduceLeDiff, Nat.reduceAdd, Nat.reduceMul, Nat.reduceSub, i_lit, eq_self, and_true, true_and, and_self, not_true_eq_false, not_false_eq_true, or_true, true_or, or_false, false_or, false_and, and_false, reduceCtorEq, Nat.add_left_cancel_iff, Nat.add_zero, Nat.zero_add, md_all h4, md_all h5, n6]
    · rw [if_neg c5]
      obtain ⟨W6, M6, q6, h6, g6⟩ := s_b260 (k := k) (W := t0 W) hk hw ht (show kd < 6 by omega) h17 h4 g4' hL (by show 5 < 230; omega)
      have el : ([bt (i32 kd), bt (i32 fr), bt (i32 to)] ++ two (i32 t)) ++ (if kd = 5 then bt (i32 (t0 W 17 t)) :: chB (t0 W) t (t0 W 17 t) else []) = allB W kd fr to t := by
        unfold allB bodyB
        rw [if_neg c5, if_neg c1, if_neg c5]
      rw [el] at q6 g6
      refine ⟨W6, M6, ?_, h6, g6⟩
      rw [← q6]
      unfold fX5_byteOf_112
      repeat (first
        | (with_reducible refine e_l1 ?_)
        | ((with_reducible refine e_k ?_ (mkM h4) ?_); focus rfl)
        | ((with_reducible refine e_p ?_ (mp1 h4) ?_); focus rfl)
        | ((with_reducible refine e_p ?_ (mp2 h4) ?_); focus rfl)
        | ((with_reducible refine e_p ?_ (mp3 h4) ?_); focus rfl)
        | ((with_reducible refine e_p ?_ (mp4 h4) ?_); focus rfl)
        | ((with_reducible refine e_p ?_ (mp5 h4) ?_); focus rfl)
        | ((with_reducible refine e_p ?_ (mp6 h4) ?_); focus rfl)
        | ((with_reducible refine e_p ?_ (mp7 h4) ?_); focus rfl)
        | ((with_reducible refine e_p ?_ (mp8 h4) ?_); focus rfl)
        | ((with_reducible refine e_p ?_ (mp9 h4) ?_); focus rfl)
        | ((with_reducible refine e_p ?_ (mp10 h4) ?_); focus rfl)
        | ((with_reducible refine e_p ?_ (mp11 h4) ?_); focus rfl)
        | ((with_reducible refine e_p ?_ (mp12 h4) ?_); focus rfl)
        | ((with_reducible refine e_p ?_ (mp13 h4) ?_); focus rfl)
        | ((with_reducible refine e_p ?_ (mp14 h4) ?_); focus rfl)
        | ((with_reducible refine e_p ?_ (mp15 h4) ?_); focus rfl)
        | ((with_reducible refine e_p ?_ (mp16 h4) ?_); focus rfl)
        | ((with_reducible refine e_p ?_ (mp17 h4) ?_); focus rfl)
        | ((with_reducible refine e_p ?_ (mp18 h4) ?_); focus rfl)
        | ((with_reducible refine e_p ?_ (mp19 h4) ?_); focus rfl)
        | ((with_reducible refine e_p ?_ (mp20 h4) ?_); focus rfl)
        | ((with_reducible refine e_p ?_ (mp21 h4) ?_); focus rfl)
        | ((with_reducible refine e_ip ?_ ?_); focus (simp (disch := omega) only [b_all, sV_all, ↓reduceIte, Nat.reduceEqDiff, Nat.reduceLT, Nat.reduceLeDiff, Nat.reduceAdd, Nat.reduceMul, Nat.reduceSub, i_lit, eq_self, and_true, true_and, and_self, not_true_eq_false, not_false_eq_true, or_true, true_or, or_false, false_or, false_and, and_false, reduceCtorEq, Nat.add_left_cancel_iff, Nat.add_zero, Nat.zero_add, md_all h4]; done))
        | ((with_reducible refine e_in ?_ ?_); focus (simp (disch := omega) only [b_all, sV_all, ↓reduceIte, Nat.reduceEqDiff, Nat.reduceLT, Nat.reduceLeDiff, Nat.reduceAdd, Nat.reduceMul, Nat.reduceSub, i_lit, eq_self, and_true, true_and, and_self, not_true_eq_false, not_false_eq_true, or_true, true_or, or_false, false_or, false_and, and_false, reduceCtorEq, Nat.add_left_cancel_iff, Nat.add_zero, Nat.zero_add, md_all h4]; done))
        | unfold fX5_byteOf_128
        | fail)
      first | with_reducible rfl | simp (disch := omega) only [b_all, sV_all, ↓reduceIte, Nat.reduceEqDiff, Nat.reduceLT, Nat.reduceLeDiff, Nat.reduceAdd, Nat.reduceMul, Nat.reduceSub, i_lit, eq_self, and_true, true_and, and_self, not_true_eq_false, not_false_eq_true, or_true, true_or, or_false, false_or, false_and, and_false, reduceCtorEq, Nat.add_left_cancel_iff, Nat.add_zero, Nat.zero_add, md_all h4]
theorem m_byte_iae (h : St x B C W M) (hb : Bd W) {j w : Nat} (hj : j < 4294967296) (hn : ¬ j < W 0 23) : fX5_byteOf x k (B + 25) (i32 j) (i32 w) M = some (i32 0, sV M (B + 25) 27 (i32 1)) := by
  have hb1 := hb.1
  have f0 := s_fails1 (k := k) h 1
  unfold fX5_byteOf
  by_cases c : 2147483648 ≤ j
  · have en := i_neg hj
    repeat (first
      | (with_reducible refine e_l1 ?_)
      | ((with_reducible refine e_k ?_ (mkM h) ?_); focus rfl)
      | ((with_reducible refine e_p ?_ (mp1 h) ?_); focus rfl)
      | ((with_reducible refine e_p ?_ (mp2 h) ?_); focus rfl)
      | ((with_reducible refine e_p ?_ (mp3 h) ?_); focus rfl)
      | ((with_reducible refine e_p ?_ (mp4 h) ?_); focus rfl)
      | ((with_reducible refine e_p ?_ (mp5 h) ?_); focus rfl)
      | ((with_reducible refine e_p ?_ (mp6 h) ?_); focus rfl)
      | ((with_reducible refine e_p ?_ (mp7 h) ?_); focus rfl)
      | ((with_reducible refine e_p ?_ (mp8 h) ?_); focus rfl)
      | ((with_reducible refine e_p ?_ (mp9 h) ?_); focus rfl)
      | ((with_reducible refine e_p ?_ (mp10 h) ?_); focus rfl)
      | ((with_reducible refine e_p ?_ (mp11 h) ?_); focus rfl)
      | ((with_reducible refine e_p ?_ (mp12 h) ?_); focus rfl)
      | ((with_reducible refine e_p ?_ (mp13 h) ?_); focus rfl)
      | ((with_reducible refine e_p ?_ (mp14 h) ?_); focus rfl)
      | ((with_reducible refine e_p ?_ (mp15 h) ?_); focus rfl)
      | ((with_reducible refine e_p ?_ (mp16 h) ?_); focus rfl)
      | ((with_reducible refine e_p ?_ (mp17 h) ?_); focus rfl)
      | ((with_reducible refine e_p ?_ (mp18 h) ?_); focus rfl)
      | ((with_reducible refine e_p ?_ (mp19 h) ?_); focus rfl)
      | ((with_reducible refine e_p ?_ (mp20 h) ?_); focus rfl)
      | ((with_reducible refine e_p ?_ (mp21 h) ?_); focus rfl)
      | ((with_reducible refine e_o2 ?_ f0 ?_); focus (first | with_reducible rfl | (simp (disch := omega) only [b_all, sV_all, ↓reduceIte, Nat.reduceEqDiff, Nat.reduceLT, Nat.reduceLeDiff, Nat.reduceAdd, Nat.reduceMul, Nat.reduceSub, i_lit, eq_self, and_true, true_and, and_self, not_true_eq_false, not_false_eq_true, or_true, true_or, or_false, false_or, false_and, and_false, reduceCtorEq, Nat.add_left_cancel_iff, Nat.add_zero, Nat.zero_add, md_all h, en]; done)))
      | ((with_reducible refine e_ip ?_ ?_); focus (simp (disch := omega) only [b_all, sV_all, ↓reduceIte, Nat.reduceEqDiff, Nat.reduceLT, Nat.reduceLeDiff, Nat.reduceAdd, Nat.reduceMul, Nat.reduceSub, i_lit, eq_self, and_true, true_and, and_self, not_true_eq_false, not_false_eq_true, or_true, true_or, or_false, false_or, false_and, and_false, reduceCtorEq, Nat.add_left_cancel_iff, Nat.add_zero, Nat.zero_add, md_all h, en]; done))
      | ((with_reducible refine e_in ?_ ?_); focus (simp (disch := omega) only [b_all, sV_all, ↓reduceIte, Nat.reduceEqDiff, Nat.reduceLT, Nat.reduceLeDiff, Nat.reduceAdd, Nat.reduceMul, Nat.reduceSub, i_lit, eq_self, and_true, true_and, and_self, not_true_eq_false, not_false_eq_true, or_true, true_or, or_false, false_or, false_and, and_false, reduceCtorEq, Nat.add_left_cancel_iff, Nat.add_zero, Nat.zero_add, md_all h, en]; done))
      | unfold fX5_byteOf_13
      | unfold fX5_byteOf_18
      | fail)
    first | with_reducible rfl | simp (disch := omega) only [b_all, sV_all, ↓reduceIte, Nat.reduceEqDiff, Nat.reduceLT, Nat.reduceLeDiff, Nat.reduceAdd, Nat.reduceMul, Nat.reduceSub, i_lit, eq_self, and_true, true_and, and_self, not_true_eq_false, not_false_eq_true, or_true, true_or, or_false, false_or, false_and, and_false, reduceCtorEq, Nat.add_left_cancel_iff, Nat.add_zero, Nat.zero_add, md_all h, en]
  · repeat (first
      | (with_reducible refine e_l1 ?_)
      | ((with_reducible refine e_k ?_ (mkM h) ?_); focus rfl)
      | ((with_reducible refine e_p ?_ (mp1 h) ?_); focus rfl)
      | ((with_reducible refine e_p ?_ (mp2 h) ?_); focus rfl)
      | ((with_reducible refine e_p ?_ (mp3 h) ?_); focus rfl)
      | ((with_reducible refine e_p ?_ (mp4 h) ?_); focus rfl)
      | ((with_reducible refine e_p ?_ (mp5 h) ?_); focus rfl)
      | ((with_reducible refine e_p ?_ (mp6 h) ?_); focus rfl)
      | ((with_reducible refine e_p ?_ (mp7 h) ?_); focus rfl)
      | ((with_reducible refine e_p ?_ (mp8 h) ?_); focus rfl)
      | ((with_reducible refine e_p ?_ (mp9 h) ?_); focus rfl)
      | ((with_reducible refine e_p ?_ (mp10 h) ?_); focus rfl)
      | ((with_reducible refine e_p ?_ (mp11 h) ?_); focus rfl)
      | ((with_reducible refine e_p ?_ (mp12 h) ?_); focus rfl)
      | ((with_reducible refine e_p ?_ (mp13 h) ?_); focus rfl)
      | ((with_reducible refine e_p ?_ (mp14 h) ?_); focus rfl)
      | ((with_reducible refine e_p ?_ (mp15 h) ?_); focus rfl)
      | ((with_reducible refine e_p ?_ (mp16 h) ?_); focus rfl)
      | ((with_reducible refine e_p ?_ (mp17 h) ?_); focus rfl)
      | ((with_reducible refine e_p ?_ (mp18 h) ?_); focus rfl)
      | ((with_reducible refine e_p ?_ (mp19 h) ?_); focus rfl)
      | ((with_reducible refine e_p ?_ (mp20 h) ?_); focus rfl)
      | ((with_reducible refine e_p ?_ (mp21 h) ?_); focus rfl)
      | ((with_reducible refine e_o2 ?_ f0 ?_); focus (first | with_reducible rfl | (simp (disch := omega) only [b_all, sV_all, ↓reduceIte, Nat.reduceEqDiff, Nat.reduceLT, Nat.reduceLeDiff, Nat.reduceAdd, Nat.reduceMul, Nat.reduceSub, i_lit, eq_self, and_true, true_and, and_self, not_true_eq_false, not_false_eq_true, or_true, true_or, or_false, false_or, false_and, and_false, reduceCtorEq, Nat.add_left_cancel_iff, Nat.add_zero, Nat.zero_add, md_all h]; done)))
      | ((with_reducible refine e_ip ?_ ?_); focus (simp (disch := omega) only [b_all, sV_all, ↓reduceIte, Nat.reduceEqDiff, Nat.reduceLT, Nat.reduceLeDiff, Nat.reduceAdd, Nat.reduceMul, Nat.reduceSub, i_lit, eq_self, and_true, true_and, and_self, not_true_eq_false, not_false_eq_true, or_true, true_or, or_false, false_or, false_and, and_false, reduceCtorEq, Nat.add_left_cancel_iff, Nat.add_zero, Nat.zero_add, md_all h]; done))
      | ((with_reducible refine e_in ?_ ?_); focus (simp (disch := omega) only [b_all, sV_all, ↓reduceIte, Nat.reduceEqDiff, Nat.reduceLT, Nat.reduceLeDiff, Nat.reduceAdd, Nat.reduceMul, Nat.reduceSub, i_lit, eq_self, and_true, true_and, and_self, not_true_eq_false, not_false_eq_true, or_true, true_or, or_false, false_or, false_and, and_false, reduceCtorEq, Nat.add_left_cancel_iff, Nat.add_zero, Nat.zero_add, md_all h]; done))
      | unfold fX5_byteOf_13
      | unfold fX5_byteOf_18
      | fail)
    first | with_reducible rfl | simp (disch := omega) only [b_all, sV_all, ↓reduceIte, Nat.reduceEqDiff, Nat.reduceLT, Nat.reduceLeDiff, Nat.reduceAdd, Nat.reduceMul, Nat.reduceSub, i_lit, eq_self, and_true, true_and, and_self, not_true_eq_false, not_false_eq_true, or_true, true_or, or_false, false_or, false_and, and_false, reduceCtorEq, Nat.add_left_cancel_iff, Nat.add_zero, Nat.zero_add, md_all h]
/-- the class's finder -/
def Pf (C : Ab) (w : Nat) (L : List Nat) (C' : Ab) : Prop := (∀ a q, a ≠ 24 → C' a q = C a q) ∧ C' 24 0 = w ∧ C' 24 1 = L.length ∧ C' 24 2 = chk L ∧ C' 24 3 = fnd L w
theorem fnd_lt {L : List Nat} (b : By L) (w : Nat) : fnd L w < 4294967296 := by
  unfold fnd
  split
  · have := b w; omega
  · omega
theorem rl_pf (r : Rl C W) {w : Nat} {L : List Nat} {C' : Ab} (p : Pf C w L C') (b : By L) (hl : L.length < 300) (hw : w < 4294967296) (h4 : ∀ q, 3 < q → C' 24 q < 4294967296) : Rl C' W := by
  have q2 := r.q.2.1
  have f := p.1
  refine ⟨r.q.mk' (fun a q => ?_) ⟨?_, ?_, ?_, ?_⟩ (fun s' i hs' hi => ?_), ⟨?_, ?_, ?_, ?_⟩, fun s' hs' => ?_, fun s' hs' => ?_, fun u hu => ?_, fun j q hj hq => ?_, ?_⟩
  · by_cases c : a = 24
    · refine Or.inr (Or.inr ?_)
      rw [c]
      show C' 24 q < 4294967296
      rcases (show q = 0 ∨ q = 1 ∨ q = 2 ∨ q = 3 ∨ 3 < q by omega) with rfl | rfl | rfl | rfl | z
      · rw [p.2.1]; exact hw
      · rw [p.2.2.1]; omega
      · rw [p.2.2.2.1]; have := chkG_lt b L.length; unfold chk; omega
      · rw [p.2.2.2.2]; exact fnd_lt b w
      · exact h4 q z
    · exact Or.inl (f a q c)
  · rw [f _ _ (by omega)]; exact q2.1
  · rw [f _ _ (by omega), f _ _ (by omega)]; exact q2.2.1
  · rw [f _ _ (by omega)]; exact q2.2.2.1
  · rw [f _ _ (by omega)]; exact q2.2.2.2
  · rw [f _ _ (by omega), f _ _ (by omega)]
    rw [f _ _ (by omega)] at hi
    exact r.q.2.2 s' i hs' hi
  · rw [f _ _ (by omega)]; exact r.s.1
  · rw [f _ _ (by omega)]; exact r.s.2.1
  · rw [f _ _ (by omega)]; exact r.s.2.2.1
  · rw [f _ _ (by omega)]; exact r.s.2.2.2
  · exact (r.p hs').fr (f _ _ (by omega)) (fun j hj => f _ _ (by omega)) (fun j hj => f _ _ (by omega)) rfl (fun j hj => rfl) (fun j hj => rfl)
  · exact (r.a hs').fr (f _ _ (by omega)) (fun j => f _ _ (by omega)) rfl rfl (fun j => rfl)
  · exact (r.t hu).fr (fun a j h1 h2 => f _ _ (by omega)) (fun i hi => rfl) (fun i j hi hj => rfl) (fun i j hi hj => rfl) (r.b17 hu)
  · rw [f _ _ (by omega)]; exact r.l j q hj hq
  · rw [r.z]
    exact sm5 (fun s' hs' => (f _ _ (by omega)).symm)
theorem c_put {C' : Ab} {w : Nat} {L : List Nat} (h : St x B C' W0 M) (p : Pf C w L C') (b : By L) (hl : L.length < 299) (hw : w < 4294967296) (h4 : ∀ q, 3 < q → C' 24 q < 4294967296) (v : Int32) : ∃ C2 M2, fX0_put x k (B + 24) v M = some ((), M2) ∧ St x B C2 W0 M2 ∧ Pf C w (L ++ [bt v]) C2 ∧ ∀ q, 3 < q → C2 24 q < 4294967296 := by
  obtain ⟨f, p0, p1, p2, p3⟩ := p
  have hc : chk L < 65536 := chkG_lt b L.length
  have ev : v &&& i32 255 = i32 (bt v) := (bt_i v).symm
  have em : (((i32 (chk L) <<< (i32 3 &&& i32 31)) ||| (i32 (chk L) >>> (i32 13 &&& i32 31))) &&& i32 65535) ^^^ i32 (bt v) = i32 (chk (L ++ [bt v])) := by
    rw [i_shl _ (by omega), i_shr (by omega) (by omega), i_or, i_and, i_xor, chk_s]; rfl
  have ll : (L ++ [bt v]).length = L.length + 1 := by rw [List.length_append]; rfl
  by_cases c : w = L.length
  · have h1 := suF h 3 (bt v)
    have h2 := suF h1 1 (L.length + 1)
    have h3 := suF h2 2 (chk (L ++ [bt v]))
    refine ⟨_, _, ?_, h3, ⟨fun a q ha => ?_, ?_, ?_, ?_, ?_⟩, fun q hq => ?_⟩
    · unfold fX0_put
      repeat (first
        | (with_reducible refine e_l1 ?_)
        | ((with_reducible refine e_k ?_ (kB h) ?_); focus rfl)
        | ((with_reducible refine e_p ?_ (p_s h) ?_); focus rfl)
        | ((with_reducible refine e_p ?_ (p_t h) ?_); focus rfl)
        | ((with_reducible refine e_p ?_ (p_l h) ?_); focus rfl)
        | ((with_reducible refine e_p ?_ (p_f h) ?_); focus rfl)
        | ((with_reducible apply e_o1); focus (simp (disch := omega) only [b_all, sV_all, ↓reduceIte, Nat.reduceEqDiff, Nat.reduceLT, Nat.reduceLeDiff, Nat.reduceAdd, Nat.reduceMul, Nat.reduceSub, i_lit, eq_self, and_true, true_and, and_self, not_true_eq_false, not_false_eq_true, or_true, true_or, or_false, false_or, false_and, and_false, reduceCtorEq, Nat.add_left_cancel_iff, Nat.add_zero, Nat.zero_add, cd_all h, p0, p1, p2, p3, ev, em]; first | done | rfl))
        | ((with_reducible refine e_ip ?_ ?_); focus (simp (disch := omega) only [b_all, sV_all, ↓reduceIte, Nat.reduceEqDiff, Nat.reduceLT, Nat.reduceLeDiff, Nat.reduceAdd, Nat.reduceMul, Nat.reduceSub, i_lit, eq_self, and_true, true_and, and_self, not_true_eq_false, not_false_eq_true, or_true, true_or, or_false, false_or, false_and, and_false, reduceCtorEq, Nat.add_left_cancel_iff, Nat.add_zero, Nat.zero_add, cd_all h, p0, p1, p2, p3, ev, em]; done))
        | ((with_reducible refine e_in ?_ ?_); focus (simp (disch := omega) only [b_all, sV_all, ↓reduceIte, Nat.reduceEqDiff, Nat.reduceLT, Nat.reduceLeDiff, Nat.reduceAdd, Nat.reduceMul, Nat.reduceSub, i_lit, eq_self, and_true, true_and, and_self, not_true_eq_false, not_false_eq_true, or_true, true_or, or_false, false_or, false_and, and_false, reduceCtorEq, Nat.add_left_cancel_iff, Nat.add_zero, Nat.zero_add, cd_all h, p0, p1, p2, p3, ev, em]; done))
        | unfold fX0_put_22
        | fail)
      first | with_reducible rfl | simp (disch := omega) only [b_all, sV_all, ↓reduceIte, Nat.reduceEqDiff, Nat.reduceLT, Nat.reduceLeDiff, Nat.reduceAdd, Nat.reduceMul, Nat.reduceSub, i_lit, eq_self, and_true, true_and, and_self, not_true_eq_false, not_false_eq_true, or_true, true_or, or_false, false_or, false_and, and_false, reduceCtorEq, Nat.add_left_cancel_iff, Nat.add_zero, Nat.zero_add, cd_all h, p0, p1, p2, p3, ev, em]
    · rw [U_r _ ha, U_r _ ha, U_r _ ha]; exact f a q ha
    · simp (disch := omega) only [U_ne]; exact p0
    · simp (disch := omega) only [U_ne, U_s]; exact ll.symm
    · rw [U_s]
    · simp (disch := omega) only [U_ne, U_s]; rw [fnd_s, if_pos c]
    · simp (disch := omega) only [U_ne]; exact h4 q hq
  · have h2 := suF h 1 (L.length + 1)
    have h3 := suF h2 2 (chk (L ++ [bt v]))
    refine ⟨_, _, ?_, h3, ⟨fun a q ha => ?_, ?_, ?_, ?_, ?_⟩, fun q hq => ?_⟩
    · unfold fX0_put
      repeat (first
        | (with_reducible refine e_l1 ?_)
        | ((with_reducible refine e_k ?_ (kB h) ?_); focus rfl)
        | ((with_reducible refine e_p ?_ (p_s h) ?_); focus rfl)
        | ((with_reducible refine e_p ?_ (p_t h) ?_); focus rfl)
        | ((with_reducible refine e_p ?_ (p_l h) ?_); focus rfl)
        | ((with_reducible refine e_p ?_ (p_f h) ?_); focus rfl)
        | ((with_reducible apply e_o1); focus (simp (disch := omega) only [b_all, sV_all, ↓reduceIte, Nat.reduceEqDiff, Nat.reduceLT, Nat.reduceLeDiff, Nat.reduceAdd, Nat.reduceMul, Nat.reduceSub, i_lit, eq_self, and_true, true_and, and_self, not_true_eq_false, not_false_eq_true, or_true, true_or, or_false, false_or, false_and, and_false, reduceCtorEq, Nat.add_left_cancel_iff, Nat.add_zero, Nat.zero_add, cd_all h, p0, p1, p2, p3, ev, em]; first | done | rfl))
        | ((with_reducible refine e_ip ?_ ?_); focus (simp (disch := omega) only [b_all, sV_all, ↓reduceIte, Nat.reduceEqDiff, Nat.reduceLT, Nat.reduceLeDiff, Nat.reduceAdd, Nat.reduceMul, Nat.reduceSub, i_lit, eq_self, and_true, true_and, and_self, not_true_eq_false, not_false_eq_true, or_true, true_or, or_false, false_or, false_and, and_false, reduceCtorEq, Nat.add_left_cancel_iff, Nat.add_zero, Nat.zero_add, cd_all h, p0, p1, p2, p3, ev, em]; done))
        | ((with_reducible refine e_in ?_ ?_); focus (simp (disch := omega) only [b_all, sV_all, ↓reduceIte, Nat.reduceEqDiff, Nat.reduceLT, Nat.reduceLeDiff, Nat.reduceAdd, Nat.reduceMul, Nat.reduceSub, i_lit, eq_self, and_true, true_and, and_self, not_true_eq_false, not_false_eq_true, or_true, true_or, or_false, false_or, false_and, and_false, reduceCtorEq, Nat.add_left_cancel_iff, Nat.add_zero, Nat.zero_add, cd_all h, p0, p1, p2, p3, ev, em]; done))
        | unfold fX0_put_22
        | fail)
      first | with_reducible rfl | simp (disch := omega) only [b_all, sV_all, ↓reduceIte, Nat.reduceEqDiff, Nat.reduceLT, Nat.reduceLeDiff, Nat.reduceAdd, Nat.reduceMul, Nat.reduceSub, i_lit, eq_self, and_true, true_and, and_self, not_true_eq_false, not_false_eq_true, or_true, true_or, or_false, false_or, false_and, and_false, reduceCtorEq, Nat.add_left_cancel_iff, Nat.add_zero, Nat.zero_add, cd_all h, p0, p1, p2, p3, ev, em]
    · rw [U_r _ ha, U_r _ ha]; exact f a q ha
    · simp (disch := omega) only [U_ne]; exact p0
    · simp (disch := omega) only [U_ne, U_s]; exact ll.symm
    · rw [U_s]
    · simp (disch := omega) only [U_ne]; rw [fnd_s, if_neg c]; exact p3
    · simp (disch := omega) only [U_ne]; exact h4 q hq
end
