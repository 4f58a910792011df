/-! Class and reference answer alike: crash, restart -/
section
variable {C W : Ab}
theorem rl_up (r : Rl C W) {s v : Nat} (hs : s < 5) : Rl (U C (2 + 4 * s) 0 (bp (v = 0))) (U W 2 s v) := by
  have q2 := r.q.2.1
  have hle := bp_le (v = 0)
  have cR : ∀ a j, a ≠ 2 + 4 * s ∨ j ≠ 0 → U C (2 + 4 * s) 0 (bp (v = 0)) a j = C a j := fun a j ha => U_ne _ ha _
  have e0 : ∀ i j, i ≠ 2 → U W 2 s v i j = W i j := fun i j hi => U_r _ hi _ _ _
  refine ⟨r.q.mk' (fun a k => ?_) ⟨?_, ?_, ?_, ?_⟩ (fun s' i hs' hi => ?_), ⟨?_, ?_, ?_, ?_⟩, fun s' hs' => ?_, fun s' hs' => ?_, fun t ht => ?_, fun j k hj hk => ?_, ?_⟩
  · by_cases c : a = 2 + 4 * s ∧ k = 0
    · refine Or.inr (Or.inr ?_)
      rw [c.1, c.2, U_s]
      have : cb (2 + 4 * s) 0 = 2 := by
        unfold cb; rw [if_neg (by omega), if_pos (by omega), if_pos (by omega)]; rfl
      rw [this]; omega
    · exact Or.inl (cR a k (by omega))
  · rw [cR 0 4 (by omega)]; exact q2.1
  · rw [cR 0 5 (by omega), cR 60 0 (by omega)]; exact q2.2.1
  · rw [cR 60 0 (by omega)]; exact q2.2.2.1
  · rw [cR 60 1 (by omega)]; exact q2.2.2.2
  · rw [cR _ _ (by omega), cR _ _ (by omega)]
    rw [cR _ _ (by omega)] at hi
    exact r.q.2.2 s' i hs' hi
  · rw [cR 0 4 (by omega), e0 _ _ (by omega)]; exact r.s.1
  · rw [cR 0 5 (by omega), e0 _ _ (by omega)]; exact r.s.2.1
  · rw [cR 0 6 (by omega), e0 _ _ (by omega)]; exact r.s.2.2.1
  · rw [cR 60 1 (by omega), e0 _ _ (by omega)]; exact r.s.2.2.2
  · by_cases c : s' = s
    · subst c
      refine ⟨by rw [U_s, U_s], fun j hj => by rw [cR _ _ (by omega), e0 _ _ (by omega)]; exact (r.p hs').2.1 j hj, fun j hj => by rw [cR _ _ (by omega), e0 _ _ (by omega)]; exact (r.p hs').2.2 j hj⟩
    · exact (r.p hs').fr (cR _ _ (by omega)) (fun j hj => cR _ _ (by omega)) (fun j hj => cR _ _ (by omega)) (U_k _ _ _ c _) (fun j hj => e0 _ _ (by omega)) (fun j hj => e0 _ _ (by omega))
  · exact (r.a hs').fr (cR _ _ (by omega)) (fun j => cR _ _ (by omega)) (e0 _ _ (by omega)) (e0 _ _ (by omega)) (fun j => e0 _ _ (by omega))
  · rw [e0 _ _ (by omega)] at ht
    exact (r.t ht).fr (fun a j h1 h2 => cR _ _ (by omega)) (fun i hi => e0 _ _ (by omega)) (fun i j hi hj => e0 _ _ (by omega)) (fun i j hi hj => e0 _ _ (by omega)) (r.b17 ht)
  · rw [e0 _ _ (by omega)] at hj
    rw [cR _ _ (by omega), e0 _ _ (by omega)]; exact r.l j k hj hk
  · rw [e0 _ _ (by omega), r.z]
    exact sm5 (fun s' hs' => (cR _ _ (by omega)).symm)
end
section
variable {x : Cx} {k B : Nat} {C W W0 : Ab} {M : Mm}
theorem c_lose {a st : Nat} (ka : mK M a = 4) (va : mV M a 2 = i32 st) (hst : st < 5) : fX4_loseIfOpen x k a M = some ((), if st ≤ 1 then sV (sV M a 15 (i32 (bp (st = 1)))) a 2 (i32 4) else M) := by
  unfold fX4_loseIfOpen
  rw [if_pos ka, va, show (0 : Int32) = i32 0 from rfl, show (1 : Int32) = i32 1 from rfl]
  have k15 : ∀ v, mK (sV M a 15 v) a = 4 := fun v => ka
  have f29 : ∀ v : Nat, v ≤ 1 → fX4_loseIfOpen_29 x k a a (i32 v) M = some ((), sV (sV M a 15 (i32 v)) a 2 (i32 4)) := by
    intro v hv
    unfold fX4_loseIfOpen_29
    rw [if_pos ⟨ka, by rw [show (0 : Int32) = i32 0 from rfl, show (1 : Int32) = i32 1 from rfl, i_eq (by omega) (by omega), i_eq (by omega) (by omega)]; omega⟩, if_pos (k15 _)]
    rfl
  rcases (show st = 0 ∨ st = 1 ∨ 2 ≤ st by omega) with c | c | c
  · subst c
    rw [if_pos rfl, if_pos (by omega), bp_f (by omega)]
    unfold fX4_loseIfOpen_15
    rw [if_pos ka, va, if_neg (by decide)]
    exact f29 0 (by omega)
  · subst c
    rw [if_neg (by decide), if_pos ka, if_pos rfl, if_pos (by omega), bp_t rfl]
    unfold fX4_loseIfOpen_15
    rw [if_pos ka, va, if_pos (show i32 1 = 1 from rfl)]
    exact f29 1 (by omega)
  · rw [if_neg (by rw [i_eq (by omega) (by omega)]; omega), if_pos ka, if_neg (by rw [i_eq (by omega) (by omega)]; omega), if_neg (by omega)]
    rfl
theorem c_crash29 {s : Nat} (hs : s < 5) (W : Ab) (C : Ab) : ∀ n t C' M, St x B C' W0 M → Rl C' (crF W s t) → Kp C C' → t ≤ W 0 5 → W 0 5 < n + t → ∃ C' M', fX4_crash_29 x k n B (i32 s) (i32 t) M = some (.inr (), M') ∧ St x B C' W0 M' ∧ Rl C' (crF W s (W 0 5)) ∧ Kp C C' := by
  intro n
  induction n with
  | zero => intro t C' M _ _ _ h1 h2; omega
  | succ n ih =>
    intro t C' M h r kp ht hn
    have w05 : crF W s t 0 5 = W 0 5 := crF_r _ _ (by omega) _ _
    have e5 := r.s.2.1
    rw [w05] at e5
    have hb := r.b
    rw [w05] at hb
    by_cases hc : W 0 5 ≤ t
    · obtain rfl : t = W 0 5 := by omega
      refine ⟨C', M, ?_, h, r, kp⟩
      rw [fX4_crash_29]
      repeat (first
        | (with_reducible refine e_l1 ?_)
        | ((with_reducible refine e_k ?_ (kB h) ?_); focus rfl)
        | ((with_reducible refine e_p ?_ (p_s h) ?_); focus rfl)
        | ((with_reducible refine e_p ?_ (p_t h) ?_); focus rfl)
        | ((with_reducible refine e_p ?_ (p_l h) ?_); focus rfl)
        | ((with_reducible refine e_p ?_ (p_f h) ?_); focus rfl)
        | ((with_reducible apply e_o1); focus (simp (disch := omega) only [b_all, sV_all, ↓reduceIte, Nat.reduceEqDiff, Nat.reduceLT, Nat.reduceLeDiff, Nat.reduceAdd, Nat.reduceMul, Nat.reduceSub, i_lit, eq_self, and_true, true_and, and_self, not_true_eq_false, not_false_eq_true, or_true, true_or, or_false, false_or, false_and, and_false, reduceCtorEq, Nat.add_left_cancel_iff, Nat.add_zero, Nat.zero_add, cd_all h, e5]; first | done | rfl))
        | ((with_reducible refine e_ip ?_ ?_); focus (simp (disch := omega) only [b_all, sV_all, ↓reduceIte, Nat.reduceEqDiff, Nat.reduceLT, Nat.reduceLeDiff, Nat.reduceAdd, Nat.reduceMul, Nat.reduceSub, i_lit, eq_self, and_true, true_and, and_self, not_true_eq_false, not_false_eq_true, or_true, true_or, or_false, false_or, false_and, and_false, reduceCtorEq, Nat.add_left_cancel_iff, Nat.add_zero, Nat.zero_add, cd_all h, e5]; done))
        | ((with_reducible refine e_in ?_ ?_); focus (simp (disch := omega) only [b_all, sV_all, ↓reduceIte, Nat.reduceEqDiff, Nat.reduceLT, Nat.reduceLeDiff, Nat.reduceAdd, Nat.reduceMul, Nat.reduceSub, i_lit, eq_self, and_true, true_and, and_self, not_true_eq_false, not_false_eq_true, or_true, true_or, or_false, false_or, false_and, and_false, reduceCtorEq, Nat.add_left_cancel_iff, Nat.add_zero, Nat.zero_add, cd_all h, e5]; done))
        | fail)
      first | with_reducible rfl | simp (disch := omega) only [b_all, sV_all, ↓reduceIte, Nat.reduceEqDiff, Nat.reduceLT, Nat.reduceLeDiff, Nat.reduceAdd, Nat.reduceMul, Nat.reduceSub, i_lit, eq_self, and_true, true_and, and_self, not_true_eq_false, not_false_eq_true, or_true, true_or, or_false, false_or, false_and, and_false, reduceCtorEq, Nat.add_left_cancel_iff, Nat.add_zero, Nat.zero_add, cd_all h, e5]
    · have hl : t < crF W s t 0 5 := by omega
      have ht' := r.c hl
      have eg := c_get0 (k := k) h r.q ht'
      have eb := c_bit (x := x) (k := k) (M := M) (a := s) (by omega)
      have h1 := suT0 h ht' 13 (C' (100 + 5 * t) 13 &&& (1 <<< s ^^^ 4294967295))
      have r1 := rl_unkeep r hl hs
      have hl1 : t < U (crF W s t) 9 (5 * t + s) 0 0 5 := by rw [U_r _ (by omega)]; exact hl
      have kp1 : Kp C' (U C' (100 + 5 * t) 13 (C' (100 + 5 * t) 13 &&& (1 <<< s ^^^ 4294967295))) := Kp.low (fun a j q1 q2 => U_r _ (by omega) _ _ _)
      have e1 := (r.t hl).1.2.1
      have e2 := (r.t hl).1.2.2.1
      have w4 : crF W s t 4 t = W 4 t := crF_r _ _ (by omega) _ _
      have w5 : crF W s t 5 t = W 5 t := crF_5 _ _ _ (Nat.le_refl _)
      rw [w4] at e1
      rw [w5] at e2
      have h4 := r.s4 hl
      rw [w4] at h4
      have h5 := (cbT r.q ht').1.2.2.1
      rw [e2] at h5
      obtain ⟨k1, v1, -, s1⟩ := tk h1 (t := t) (a := C' 70 t) (r1.c hl1) (kp1.2.1 t)
      have v1' : mV (sV M (C' 70 t) 13 (i32 (C' (100 + 5 * t) 13 &&& (1 <<< s ^^^ 4294967295)))) (C' 70 t) 2 = i32 (W 5 t) := by rw [v1, U_k _ _ _ (by omega), e2]
      have el := c_lose (x := x) (k := k) k1 v1' h5
      by_cases c1 : W 4 t = s
      · by_cases c2 : W 5 t ≤ 1
        · rw [if_pos c2] at el
          have h2 := s1 15 (bp (W 5 t = 1))
          have r2 := rl_owes r1 hl1 (v := if W 5 t = 1 then 1 else 0)
          have eb2 : bp ((if W 5 t = 1 then 1 else 0) ≠ 0) = bp (W 5 t = 1) := bp_iff (by by_cases z : W 5 t = 1; (rw [if_pos z]; simp [z]); (rw [if_neg z]; simp [z]))
          rw [eb2] at r2
          have hl2 : t < U (U (crF W s t) 9 (5 * t + s) 0) 19 t (if W 5 t = 1 then 1 else 0) 0 5 := by rw [U_r _ (by omega)]; exact hl1
          have kp2 := kp1.trans (Kp.low (C' := U (U C' (100 + 5 * t) 13 (C' (100 + 5 * t) 13 &&& (1 <<< s ^^^ 4294967295))) (100 + 5 * t) 15 (bp (W 5 t = 1))) (fun a j q1 q2 => U_r _ (by omega) _ _ _))
          obtain ⟨k2, v2, -, s2⟩ := tk h2 (t := t) (a := C' 70 t) (r2.c hl2) (kp2.2.1 t)
          have h3 := s2 2 4
          have r3 := rl_state r2 hl2 (v := 4) (by omega)
          have ec : crF W s (t + 1) = U (U (U (crF W s t) 9 (5 * t + s) 0) 19 t (if W 5 t = 1 then 1 else 0)) 5 t 4 := if_pos ⟨c1, c2⟩
          rw [← ec] at r3
          obtain ⟨C4, M4, e4, h4', r4, kp4⟩ := ih (t + 1) _ _ h3 r3 (kp.trans (kp2.trans (Kp.low (fun a j q1 q2 => U_r _ (by omega) _ _ _)))) (by omega) (by omega)
          refine ⟨C4, M4, ?_, h4', r4, kp4⟩
          rw [← e4, fX4_crash_29]
          repeat (first
            | (with_reducible refine e_l1 ?_)
            | ((with_reducible refine e_k ?_ (kB h) ?_); focus rfl)
            | ((with_reducible refine e_p ?_ (p_s h) ?_); focus rfl)
            | ((with_reducible refine e_p ?_ (p_t h) ?_); focus rfl)
            | ((with_reducible refine e_p ?_ (p_l h) ?_); focus rfl)
            | ((with_reducible refine e_p ?_ (p_f h) ?_); focus rfl)
            | ((with_reducible refine e_o2 ?_ eg ?_); focus (first | with_reducible rfl | (simp (disch := omega) only [b_all, sV_all, ↓reduceIte, Nat.reduceEqDiff, Nat.reduceLT, Nat.reduceLeDiff, Nat.reduceAdd, Nat.reduceMul, Nat.reduceSub, i_lit, eq_self, and_true, true_and, and_self, not_true_eq_false, not_false_eq_true, or_true, true_or, or_false, false_or, false_and, and_false, reduceCtorEq, Nat.add_left_cancel_iff, Nat.add_zero, Nat.zero_add, cd_all h, e5, e1, i_and, i_xor]; done)))
            | ((with_reducible refine e_o2 ?_ eb ?_); focus (first | with_reducible rfl | (simp (disch := omega) only [b_all, sV_all, ↓reduceIte, Nat.reduceEqDiff, Nat.reduceLT, Nat.reduceLeDiff, Nat.reduceAdd, Nat.reduceMul, Nat.reduceSub, i_lit, eq_self, and_true, true_and, and_self, not_true_eq_false, not_false_eq_true, or_true, true_or, or_false, false_or, false_and, and_false, reduceCtorEq, Nat.add_left_cancel_iff, Nat.add_zero, Nat.zero_add, cd_all h, e5, e1, i_and, i_xor]; done)))
            | ((with_reducible refine e_o2 ?_ el ?_); focus (first | with_reducible rfl | (simp (disch := omega) only [b_all, sV_all, ↓reduceIte, Nat.reduceEqDiff, Nat.reduceLT, Nat.reduceLeDiff, Nat.reduceAdd, Nat.reduceMul, Nat.reduceSub, i_lit, eq_self, and_true, true_and, and_self, not_true_eq_false, not_false_eq_true, or_true, true_or, or_false, false_or, false_and, and_false, reduceCtorEq, Nat.add_left_cancel_iff, Nat.add_zero, Nat.zero_add, cd_all h, e5, e1, i_and, i_xor]; done)))
            | ((with_reducible refine e_T ?_ eg ?_); focus (first | with_reducible rfl | (simp (disch := omega) only [b_all, sV_all, ↓reduceIte, Nat.reduceEqDiff, Nat.reduceLT, Nat.reduceLeDiff, Nat.reduceAdd, Nat.reduceMul, Nat.reduceSub, i_lit, eq_self, and_true, true_and, and_self, not_true_eq_false, not_false_eq_true, or_true, true_or, or_false, false_or, false_and, and_false, reduceCtorEq, Nat.add_left_cancel_iff, Nat.add_zero, Nat.zero_add, cd_all h, e5, e1, i_and, i_xor]; done)))
            | ((with_reducible refine e_X ?_ eg ?_); focus (first | with_reducible rfl | (simp (disch := omega) only [b_all, sV_all, ↓reduceIte, Nat.reduceEqDiff, Nat.reduceLT, Nat.reduceLeDiff, Nat.reduceAdd, Nat.reduceMul, Nat.reduceSub, i_lit, eq_self, and_true, true_and, and_self, not_true_eq_false, not_false_eq_true, or_true, true_or, or_false, false_or, false_and, and_false, reduceCtorEq, Nat.add_left_cancel_iff, Nat.add_zero, Nat.zero_add, cd_all h, e5, e1, i_and, i_xor]; done)))
            | ((with_reducible refine e_T ?_ eb ?_); focus (first | with_reducible rfl | (simp (disch := omega) only [b_all, sV_all, ↓reduceIte, Nat.reduceEqDiff, Nat.reduceLT, Nat.reduceLeDiff, Nat.reduceAdd, Nat.reduceMul, Nat.reduceSub, i_lit, eq_self, and_true, true_and, and_self, not_true_eq_false, not_false_eq_true, or_true, true_or, or_false, false_or, false_and, and_false, reduceCtorEq, Nat.add_left_cancel_iff, Nat.add_zero, Nat.zero_add, cd_all h, e5, e1, i_and, i_xor]; done)))
            | ((with_reducible refine e_X ?_ eb ?_); focus (first | with_reducible rfl | (simp (disch := omega) only [b_all, sV_all, ↓reduceIte, Nat.reduceEqDiff, Nat.reduceLT, Nat.reduceLeDiff, Nat.reduceAdd, Nat.reduceMul, Nat.reduceSub, i_lit, eq_self, and_true, true_and, and_self, not_true_eq_false, not_false_eq_true, or_true, true_or, or_false, false_or, false_and, and_false, reduceCtorEq, Nat.add_left_cancel_iff, Nat.add_zero, Nat.zero_add, cd_all h, e5, e1, i_and, i_xor]; done)))
            | ((with_reducible refine e_T ?_ el ?_); focus (first | with_reducible rfl | (simp (disch := omega) only [b_all, sV_all, ↓reduceIte, Nat.reduceEqDiff, Nat.reduceLT, Nat.reduceLeDiff, Nat.reduceAdd, Nat.reduceMul, Nat.reduceSub, i_lit, eq_self, and_true, true_and, and_self, not_true_eq_false, not_false_eq_true, or_true, true_or, or_false, false_or, false_and, and_false, reduceCtorEq, Nat.add_left_cancel_iff, Nat.add_zero, Nat.zero_add, cd_all h, e5, e1, i_and, i_xor]; done)))
            | ((with_reducible refine e_X ?_ el ?_); focus (first | with_reducible rfl | (simp (disch := omega) only [b_all, sV_all, ↓reduceIte, Nat.reduceEqDiff, Nat.reduceLT, Nat.reduceLeDiff, Nat.reduceAdd, Nat.reduceMul, Nat.reduceSub, i_lit, eq_self, and_true, true_and, and_self, not_true_eq_false, not_false_eq_true, or_true, true_or, or_false, false_or, false_and, and_false, reduceCtorEq, Nat.add_left_cancel_iff, Nat.add_zero, Nat.zero_add, cd_all h, e5, e1, i_and, i_xor]; done)))
            | ((with_reducible apply e_o1); focus (simp (disch := omega) only [b_all, sV_all, ↓reduceIte, Nat.reduceEqDiff, Nat.reduceLT, Nat.reduceLeDiff, Nat.reduceAdd, Nat.reduceMul, Nat.reduceSub, i_lit, eq_self, and_true, true_and, and_self, not_true_eq_false, not_false_eq_true, or_true, true_or, or_false, false_or, false_and, and_false, reduceCtorEq, Nat.add_left_cancel_iff, Nat.add_zero, Nat.zero_add, cd_all h, e5, e1, i_and, i_xor]; first | done | rfl))
            | ((with_reducible refine e_ip ?_ ?_); focus (simp (disch := omega) only [b_all, sV_all, ↓reduceIte, Nat.reduceEqDiff, Nat.reduceLT, Nat.reduceLeDiff, Nat.reduceAdd, Nat.reduceMul, Nat.reduceSub, i_lit, eq_self, and_true, true_and, and_self, not_true_eq_false, not_false_eq_true, or_true, true_or, or_false, false_or, false_and, and_false, reduceCtorEq, Nat.add_left_cancel_iff, Nat.add_zero, Nat.zero_add, cd_all h, e5, e1, i_and, i_xor]; done))
            | ((with_reducible refine e_in ?_ ?_); focus (simp (disch := omega) only [b_all, sV_all, ↓reduceIte, Nat.reduceEqDiff, Nat.reduceLT, Nat.reduceLeDiff, Nat.reduceAdd, Nat.reduceMul, Nat.reduceSub, i_lit, eq_self, and_true, true_and, and_self, not_true_eq_false, not_false_eq_true, or_true, true_or, or_false, false_or, false_and, and_false, reduceCtorEq, Nat.add_left_cancel_iff, Nat.add_zero, Nat.zero_add, cd_all h, e5, e1, i_and, i_xor]; done))
            | unfold fX4_crash_76
            | fail)
          first | with_reducible rfl | simp (disch := omega) only [b_all, sV_all, ↓reduceIte, Nat.reduceEqDiff, Nat.reduceLT, Nat.reduceLeDiff, Nat.reduceAdd, Nat.reduceMul, Nat.reduceSub, i_lit, eq_self, and_true, true_and, and_self, not_true_eq_false, not_false_eq_true, or_true, true_or, or_false, false_or, false_and, and_false, reduceCtorEq, Nat.add_left_cancel_iff, Nat.add_zero, Nat.zero_add, cd_all h, e5, e1, i_and, i_xor]
        · rw [if_neg c2] at el
          have ec : crF W s (t + 1) = U (crF W s t) 9 (5 * t + s) 0 := if_neg (fun z => c2 z.2)
          rw [← ec] at r1
          obtain ⟨C4, M4, e4, h4', r4, kp4⟩ := ih (t + 1) _ _ h1 r1 (kp.trans kp1) (by omega) (by omega)
          refine ⟨C4, M4, ?_, h4', r4, kp4⟩
          rw [← e4, fX4_crash_29]
          repeat (first
            | (with_reducible refine e_l1 ?_)
            | ((with_reducible refine e_k ?_ (kB h) ?_); focus rfl)
            | ((with_reducible refine e_p ?_ (p_s h) ?_); focus rfl)
            | ((with_reducible refine e_p ?_ (p_t h) ?_); focus rfl)
            | ((with_reducible refine e_p ?_ (p_l h) ?_); focus rfl)
            | ((with_reducible refine e_p ?_ (p_f h) ?_); focus rfl)
            | ((with_reducible refine e_o2 ?_ eg ?_); focus (first | with_reducible rfl | (simp (disch := omega) only [b_all, sV_all, ↓reduceIte, Nat.reduceEqDiff, Nat.reduceLT, Nat.reduceLeDiff, Nat.reduceAdd, Nat.reduceMul, Nat.reduceSub, i_lit, eq_self, and_true, true_and, and_self, not_true_eq_false, not_false_eq_true, or_true, true_or, or_false, false_or, false_and, and_false, reduceCtorEq, Nat.add_left_cancel_iff, Nat.add_zero, Nat.zero_add, cd_all h, e5, e1, i_and, i_xor]; done)))
            | ((with_reducible refine e_o2 ?_ eb ?_); focus (first | with_reducible rfl | (simp (disch := omega) only [b_all, sV_all, ↓reduceIte, Nat.reduceEqDiff, Nat.reduceLT, Nat.reduceLeDiff, Nat.reduceAdd, Nat.reduceMul, Nat.reduceSub, i_lit, eq_self, and_true, true_and, and_self, not_true_eq_false, not_false_eq_true, or_true, true_or, or_false, false_or, false_and, and_false, reduceCtorEq, Nat.add_left_cancel_iff, Nat.add_zero, Nat.zero_add, cd_all h, e5, e1, i_and, i_xor]; done)))
            | ((with_reducible refine e_o2 ?_ el ?_); focus (first | with_reducible rfl | (simp (disch := omega) only [b_all, sV_all, ↓reduceIte, Nat.reduceEqDiff, Nat.reduceLT, Nat.reduceLeDiff, Nat.reduceAdd, Nat.reduceMul, Nat.reduceSub, i_lit, eq_self, and_true, true_and, and_self, not_true_eq_false, not_false_eq_true, or_true, true_or, or_false, false_or, false_and, and_false, reduceCtorEq, Nat.add_left_cancel_iff, Nat.add_zero, Nat.zero_add, cd_all h, e5, e1, i_and, i_xor]; done)))
            | ((with_reducible refine e_T ?_ eg ?_); focus (first | with_reducible rfl | (simp (disch := omega) only [b_all, sV_all, ↓reduceIte, Nat.reduceEqDiff, Nat.reduceLT, Nat.reduceLeDiff, Nat.reduceAdd, Nat.reduceMul, Nat.reduceSub, i_lit, eq_self, and_true, true_and, and_self, not_true_eq_false, not_false_eq_true, or_true, true_or, or_false, false_or, false_and, and_false, reduceCtorEq, Nat.add_left_cancel_iff, Nat.add_zero, Nat.zero_add, cd_all h, e5, e1, i_and, i_xor]; done)))
            | ((with_reducible refine e_X ?_ eg ?_); focus (first | with_reducible rfl | (simp (disch := omega) only [b_all, sV_all, ↓reduceIte, Nat.reduceEqDiff, Nat.reduceLT, Nat.reduceLeDiff, Nat.reduceAdd, Nat.reduceMul, Nat.reduceSub, i_lit, eq_self, and_true, true_and, and_self, not_true_eq_false, not_false_eq_true, or_true, true_or, or_false, false_or, false_and, and_false, reduceCtorEq, Nat.add_left_cancel_iff, Nat.add_zero, Nat.zero_add, cd_all h, e5, e1, i_and, i_xor]; done)))
            | ((with_reducible refine e_T ?_ eb ?_); focus (first | with_reducible rfl | (simp (disch := omega) only [b_all, sV_all, ↓reduceIte, Nat.reduceEqDiff, Nat.reduceLT, Nat.reduceLeDiff, Nat.reduceAdd, Nat.reduceMul, Nat.reduceSub, i_lit, eq_self, and_true, true_and, and_self, not_true_eq_false, not_false_eq_true, or_true, true_or, or_false, false_or, false_and, and_false, reduceCtorEq, Nat.add_left_cancel_iff, Nat.add_zero, Nat.zero_add, cd_all h, e5, e1, i_and, i_xor]; done)))
            | ((with_reducible refine e_X ?_ eb ?_); focus (first | with_reducible rfl | (simp (disch := omega) only [b_all, sV_all, ↓reduceIte, Nat.reduceEqDiff, Nat.reduceLT, Nat.reduceLeDiff, Nat.reduceAdd, Nat.reduceMul, Nat.reduceSub, i_lit, eq_self, and_true, true_and, and_self, not_true_eq_false, not_false_eq_true, or_true, true_or, or_false, false_or, false_and, and_false, reduceCtorEq, Nat.add_left_cancel_iff, Nat.add_zero, Nat.zero_add, cd_all h, e5, e1, i_and, i_xor]; done)))
            | ((with_reducible refine e_T ?_ el ?_); focus (first | with_reducible rfl | (simp (disch := omega) only [b_all, sV_all, ↓reduceIte, Nat.reduceEqDiff, Nat.reduceLT, Nat.reduceLeDiff, Nat.reduceAdd, Nat.reduceMul, Nat.reduceSub, i_lit, eq_self, and_true, true_and, and_self, not_true_eq_false, not_false_eq_true, or_true, true_or, or_false, false_or, false_and, and_false, reduceCtorEq, Nat.add_left_cancel_iff, Nat.add_zero, Nat.zero_add, cd_all h, e5, e1, i_and, i_xor]; done)))
            | ((with_reducible refine e_X ?_ el ?_); focus (first | with_reducible rfl | (simp (disch := omega) only [b_all, sV_all, ↓reduceIte, Nat.reduceEqDiff, Nat.reduceLT, Nat.reduceLeDiff, Nat.reduceAdd, Nat.reduceMul, Nat.reduceSub, i_lit, eq_self, and_true, true_and, and_self, not_true_eq_false, not_false_eq_true, or_true, true_or, or_false, false_or, false_and, and_false, reduceCtorEq, Nat.add_left_cancel_iff, Nat.add_zero, Nat.zero_add, cd_all h, e5, e1, i_and, i_xor]; done)))
            | ((with_reducible apply e_o1); focus (simp (disch := omega) only [b_all, sV_all, ↓reduceIte, Nat.reduceEqDiff, Nat.reduceLT, Nat.reduceLeDiff, Nat.reduceAdd, Nat.reduceMul, Nat.reduceSub, i_lit, eq_self, and_true, true_and, and_self, not_true_eq_false, not_false_eq_true, or_true, true_or, or_false, false_or, false_and, and_false, reduceCtorEq, Nat.add_left_cancel_iff, Nat.add_zero, Nat.zero_add, cd_all h, e5, e1, i_and, i_xor]; first | done | rfl))
            | ((with_reducible refine e_ip ?_ ?_); focus (simp (disch := omega) only [b_all, sV_all, ↓reduceIte, Nat.reduceEqDiff, Nat.reduceLT, Nat.reduceLeDiff, Nat.reduceAdd, Nat.reduceMul, Nat.reduceSub, i_lit, eq_self, and_true, true_and, and_self, not_true_eq_false, not_false_eq_true, or_true, true_or, or_false, false_or, false_and, and_false, reduceCtorEq, Nat.add_left_cancel_iff, Nat.add_zero, Nat.zero_add, cd_all h, e5, e1, i_and, i_xor]; done))
            | ((with_reducible refine e_in ?_ ?_); focus (simp (disch := omega) only [b_all, sV_all, ↓reduceIte, Nat.reduceEqDiff, Nat.reduceLT, Nat.reduceLeDiff, Nat.reduceAdd, Nat.reduceMul, Nat.reduceSub, i_lit, eq_self, and_true, true_and, and_self, not_true_eq_false, not_false_eq_true, or_true, true_or, or_false, false_or, false_and, and_false, reduceCtorEq, Nat.add_left_cancel_iff, Nat.add_zero, Nat.zero_add, cd_all h, e5, e1, i_and, i_xor]; done))
            | unfold fX4_crash_76
            | fail)
          first | with_reducible rfl | simp (disch := omega) only [b_all, sV_all, ↓reduceIte, Nat.reduceEqDiff, Nat.reduceLT, Nat.reduceLeDiff, Nat.reduceAdd, Nat.reduceMul, Nat.reduceSub, i_lit, eq_self, and_true, true_and, and_self, not_true_eq_false, not_false_eq_true, or_true, true_or, or_false, false_or, false_and, and_false, reduceCtorEq, Nat.add_left_cancel_iff, Nat.add_zero, Nat.zero_add, cd_all h, e5, e1, i_and, i_xor]
      · have ec : crF W s (t + 1) = U (crF W s t) 9 (5 * t + s) 0 := if_neg (fun z => c1 z.1)
        rw [← ec] at r1
        obtain ⟨C4, M4, e4, h4', r4, kp4⟩ := ih (t + 1) _ _ h1 r1 (kp.trans kp1) (by omega) (by omega)
        refine ⟨C4, M4, ?_, h4', r4, kp4⟩
        rw [← e4, fX4_crash_29]
        repeat (first
          | (with_reducible refine e_l1 ?_)
          | ((with_reducible refine e_k ?_ (kB h) ?_); focus rfl)
          | ((with_reducible refine e_p ?_ (p_s h) ?_); focus rfl)
          | ((with_reducible refine e_p ?_ (p_t h) ?_); focus rfl)
          | ((with_reducible refine e_p ?_ (p_l h) ?_); focus rfl)
          | ((with_reducible refine e_p ?_ (p_f h) ?_); focus rfl)
          | ((with_reducible refine e_o2 ?_ eg ?_); focus (first | with_reducible rfl | (simp (disch := omega) only [b_all, sV_all, ↓reduceIte, Nat.reduceEqDiff, Nat.reduceLT, Nat.reduceLeDiff, Nat.reduceAdd, Nat.reduceMul, Nat.reduceSub, i_lit, eq_self, and_true, true_and, and_self, not_true_eq_false, not_false_eq_true, or_true, true_or, or_false, false_or, false_and, and_false, reduceCtorEq, Nat.add_left_cancel_iff, Nat.add_zero, Nat.zero_add, cd_all h, e5, e1, i_and, i_xor]; done)))
          | ((with_reducible refine e_o2 ?_ eb ?_); focus (first | with_reducible rfl | (simp (disch := omega) only [b_all, sV_all, ↓reduceIte, Nat.reduceEqDiff, Nat.reduceLT, Nat.reduceLeDiff, Nat.reduceAdd, Nat.reduceMul, Nat.reduceSub, i_lit, eq_self, and_true, true_and, and_self, not_true_eq_false, not_false_eq_true, or_true, true_or, or_false, false_or, false_and, and_false, reduceCtorEq, Nat.add_left_cancel_iff, Nat.add_zero, Nat.zero_add, cd_all h, e5, e1, i_and, i_xor]; done)))
          | ((with_reducible refine e_T ?_ eg ?_); focus (first | with_reducible rfl | (simp (disch := omega) only [b_all, sV_all, ↓reduceIte, Nat.reduceEqDiff, Nat.reduceLT, Nat.reduceLeDiff, Nat.reduceAdd, Nat.reduceMul, Nat.reduceSub, i_lit, eq_self, and_true, true_and, and_self, not_true_eq_false, not_false_eq_true, or_true, true_or, or_false, false_or, false_and, and_false, reduceCtorEq, Nat.add_left_cancel_iff, Nat.add_zero, Nat.zero_add, cd_all h, e5, e1, i_and, i_xor]; done)))
          | ((with_reducible refine e_X ?_ eg ?_); focus (first | with_reducible rfl | (simp (disch := omega) only [b_all, sV_all, ↓reduceIte, Nat.reduceEqDiff, Nat.reduceLT, Nat.reduceLeDiff, Nat.reduceAdd, Nat.reduceMul, Nat.reduceSub, i_lit, eq_self, and_true, true_and, and_self, not_true_eq_false, not_false_eq_true, or_true, true_or, or_false, false_or, false_and, and_false, reduceCtorEq, Nat.add_left_cancel_iff, Nat.add_zero, Nat.zero_add, cd_all h, e5, e1, i_and, i_xor]; done)))
          | ((with_reducible refine e_T ?_ eb ?_); focus (first | with_reducible rfl | (simp (disch := omega) only [b_all, sV_all, ↓reduceIte, Nat.reduceEqDiff, Nat.reduceLT, Nat.reduceLeDiff, Nat.reduceAdd, Nat.reduceMul, Nat.reduceSub, i_lit, eq_self, and_true, true_and, and_self, not_true_eq_false, not_false_eq_true, or_true, true_or, or_false, false_or, false_and, and_false, reduceCtorEq, Nat.add_left_cancel_iff, Nat.add_zero, Nat.zero_add, cd_all h, e5, e1, i_and, i_xor]; done)))
          | ((with_reducible refine e_X ?_ eb ?_); focus (first | with_reducible rfl | (simp (disch := omega) only [b_all, sV_all, ↓reduceIte, Nat.reduceEqDiff, Nat.reduceLT, Nat.reduceLeDiff, Nat.reduceAdd, Nat.reduceMul, Nat.reduceSub, i_lit, eq_self, and_true, true_and, and_self, not_true_eq_false, not_false_eq_true, or_true, true_or, or_false, false_or, false_and, and_false, reduceCtorEq, Nat.add_left_cancel_iff, Nat.add_zero, Nat.zero_add, cd_all h, e5, e1, i_and, i_xor]; done)))
          | ((with_reducible apply e_o1); focus (simp (disch := omega) only [b_all, sV_all, ↓reduceIte, Nat.reduceEqDiff, Nat.reduceLT, Nat.reduceLeDiff, Nat.reduceAdd, Nat.reduceMul, Nat.reduceSub, i_lit, eq_self, and_true, true_and, and_self, not_true_eq_false, not_false_eq_true, or_true, true_or, or_false, false_or, false_and, and_false, reduceCtorEq, Nat.add_left_cancel_iff, Nat.add_zero, Nat.zero_add, cd_all h, e5, e1, i_and, i_xor]; first | done | rfl))
          | ((with_reducible refine e_ip ?_ ?_); focus (simp (disch := omega) only [b_all, sV_all, ↓reduceIte, Nat.reduceEqDiff, Nat.reduceLT, Nat.reduceLeDiff, Nat.reduceAdd, Nat.reduceMul, Nat.reduceSub, i_lit, eq_self, and_true, true_and, and_self, not_true_eq_false, not_false_eq_true, or_true, true_or, or_false, false_or, false_and, and_false, reduceCtorEq, Nat.add_left_cancel_iff, Nat.add_zero, Nat.zero_add, cd_all h, e5, e1, i_and, i_xor]; done))
          | ((with_reducible refine e_in ?_ ?_); focus (simp (disch := omega) only [b_all, sV_all, ↓reduceIte, Nat.reduceEqDiff, Nat.reduceLT, Nat.reduceLeDiff, Nat.reduceAdd, Nat.reduceMul, Nat.reduceSub, i_lit, eq_self, and_true, true_and, and_self, not_true_eq_false, not_false_eq_true, or_true, true_or, or_false, false_or, false_and, and_false, reduceCtorEq, Nat.add_left_cancel_iff, Nat.add_zero, Nat.zero_add, cd_all h, e5, e1, i_and, i_xor]; done))
          | unfold fX4_crash_76
          | fail)
        first | with_reducible rfl | simp (disch := omega) only [b_all, sV_all, ↓reduceIte, Nat.reduceEqDiff, Nat.reduceLT, Nat.reduceLeDiff, Nat.reduceAdd, Nat.reduceMul, Nat.reduceSub, i_lit, eq_self, and_true, true_and, and_self, not_true_eq_false, not_false_eq_true, or_true, true_or, or_false, false_or, false_and, and_false, reduceCtorEq, Nat.add_left_cancel_iff, Nat.add_zero, Nat.zero_add, cd_all h, e5, e1, i_and, i_xor]
theorem crF_27 (W : Ab) (s n : Nat) : crF W s n 0 27 = W 0 27 := crF_r _ _ (by omega) _ _
theorem sim_crash (hk : 5000 ≤ k) (h : St x B C W M) (r : Rl C W) (i : Inv W) (rx : Rx x C) {s : Nat} (hs' : s < 4294967296) : Sim x B 2 (fX4_crash x k B (i32 s)) (fX5_crash x k (B + 25) (i32 s)) C W M := by
  have e4 := r.s.1
  have b := i.1
  have hb := b.1
  have rm := rx.rm
  by_cases c1 : s < W 0 0
  · have q1 := c_site1 (k := k) h r.q (a := s) (by omega)
    have hs5 : s < 5 := by omega
    have ep := (r.p hs5).1
    by_cases c2 : W 2 s = 0
    · rw [bp_t c2] at ep
      have q2 := c_needS1 (x := x) (k := k) (M := M)
      have h1 := suS0 h hs5 0 0
      have r1 := rl_up (rl_t00 r) (s := s) (v := 1) hs5
      rw [bp_f (by omega)] at r1
      have kp1 : Kp C (U C (2 + 4 * s) 0 0) := Kp.low (fun a j q1 q2 => U_r _ (by omega) _ _ _)
      have w05 : U (t00 W) 2 s 1 0 5 = W 0 5 := by rw [U_r _ (by omega)]; rfl
      obtain ⟨C2, M2, q3, h2, r2, kp2⟩ := c_crash29 (x := x) (k := k) hs5 (U (t00 W) 2 s 1) C k 0 _ _ h1 r1 kp1 (by omega) (by omega)
      rw [w05] at r2
      have i1 : Inv (U (t00 W) 2 s 1) := (inv_t00 i).dm (i.1.t00.u (by omega) _ (by decide)) (fun a j _ hn => U_r _ (fun z => hn (Or.inl z)) _ _ _)
      refine simK (v := ()) (W' := wCrash W s) ?_ h2 r2 (inv_crF i1 hs5 _) (by unfold wCrash; rw [crF_27, U_r _ (by omega)]; exact t00_27 W) kp2 (fun C1 M1 h1 => m_crash_ok (k := k) hk h1 b c1 c2)
      unfold fX4_crash
      repeat (first
        | (with_reducible refine e_l1 ?_)
        | ((with_reducible refine e_k ?_ (kB h) ?_); focus rfl)
        | ((with_reducible refine e_p ?_ (p_s h) ?_); focus rfl)
        | ((with_reducible refine e_p ?_ (p_t h) ?_); focus rfl)
        | ((with_reducible refine e_p ?_ (p_l h) ?_); focus rfl)
        | ((with_reducible refine e_p ?_ (p_f h) ?_); focus rfl)
        | ((with_reducible refine e_o2 ?_ q1 ?_); focus (first | with_reducible rfl | (simp (disch := omega) only [b_all, sV_all, ↓reduceIte, Nat.reduceEqDiff, Nat.reduceLT, Nat.reduceLeDiff, Nat.reduceAdd, Nat.reduceMul, Nat.reduceSub, i_lit, eq_self, and_true, true_and, and_self, not_true_eq_false, not_false_eq_true, or_true, true_or, or_false, false_or, false_and, and_false, reduceCtorEq, Nat.add_left_cancel_iff, Nat.add_zero, Nat.zero_add, cd_all h, ep, q3]; done)))
        | ((with_reducible refine e_o2 ?_ q2 ?_); focus (first | with_reducible rfl | (simp (disch := omega) only [b_all, sV_all, ↓reduceIte, Nat.reduceEqDiff, Nat.reduceLT, Nat.reduceLeDiff, Nat.reduceAdd, Nat.reduceMul, Nat.reduceSub, i_lit, eq_self, and_true, true_and, and_self, not_true_eq_false, not_false_eq_true, or_true, true_or, or_false, false_or, false_and, and_false, reduceCtorEq, Nat.add_left_cancel_iff, Nat.add_zero, Nat.zero_add, cd_all h, ep, q3]; done)))
        | ((with_reducible refine e_T ?_ q1 ?_); focus (first | with_reducible rfl | (simp (disch := omega) only [b_all, sV_all, ↓reduceIte, Nat.reduceEqDiff, Nat.reduceLT, Nat.reduceLeDiff, Nat.reduceAdd, Nat.reduceMul, Nat.reduceSub, i_lit, eq_self, and_true, true_and, and_self, not_true_eq_false, not_false_eq_true, or_true, true_or, or_false, false_or, false_and, and_false, reduceCtorEq, Nat.add_left_cancel_iff, Nat.add_zero, Nat.zero_add, cd_all h, ep, q3]; done)))
        | ((with_reducible refine e_X ?_ q1 ?_); focus (first | with_reducible rfl | (simp (disch := omega) only [b_all, sV_all, ↓reduceIte, Nat.reduceEqDiff, Nat.reduceLT, Nat.reduceLeDiff, Nat.reduceAdd, Nat.reduceMul, Nat.reduceSub, i_lit, eq_self, and_true, true_and, and_self, not_true_eq_false, not_false_eq_true, or_true, true_or, or_false, false_or, false_and, and_false, reduceCtorEq, Nat.add_left_cancel_iff, Nat.add_zero, Nat.zero_add, cd_all h, ep, q3]; done)))
        | ((with_reducible refine e_T ?_ q2 ?_); focus (first | with_reducible rfl | (simp (disch := omega) only [b_all, sV_all, ↓reduceIte, Nat.reduceEqDiff, Nat.reduceLT, Nat.reduceLeDiff, Nat.reduceAdd, Nat.reduceMul, Nat.reduceSub, i_lit, eq_self, and_true, true_and, and_self, not_true_eq_false, not_false_eq_true, or_true, true_or, or_false, false_or, false_and, and_false, reduceCtorEq, Nat.add_left_cancel_iff, Nat.add_zero, Nat.zero_add, cd_all h, ep, q3]; done)))
        | ((with_reducible refine e_X ?_ q2 ?_); focus (first | with_reducible rfl | (simp (disch := omega) only [b_all, sV_all, ↓reduceIte, Nat.reduceEqDiff, Nat.reduceLT, Nat.reduceLeDiff, Nat.reduceAdd, Nat.reduceMul, Nat.reduceSub, i_lit, eq_self, and_true, true_and, and_self, not_true_eq_false, not_false_eq_true, or_true, true_or, or_false, false_or, false_and, and_false, reduceCtorEq, Nat.add_left_cancel_iff, Nat.add_zero, Nat.zero_add, cd_all h, ep, q3]; done)))
        | ((with_reducible apply e_o1); focus (simp (disch := omega) only [b_all, sV_all, ↓reduceIte, Nat.reduceEqDiff, Nat.reduceLT, Nat.reduceLeDiff, Nat.reduceAdd, Nat.reduceMul, Nat.reduceSub, i_lit, eq_self, and_true, true_and, and_self, not_true_eq_false, not_false_eq_true, or_true, true_or, or_false, false_or, false_and, and_false, reduceCtorEq, Nat.add_left_cancel_iff, Nat.add_zero, Nat.zero_add, cd_all h, ep, q3]; first | done | rfl))
        | ((with_reducible refine e_ip ?_ ?_); focus (simp (disch := omega) only [b_all, sV_all, ↓reduceIte, Nat.reduceEqDiff, Nat.reduceLT, Nat.reduceLeDiff, Nat.reduceAdd, Nat.reduceMul, Nat.reduceSub, i_lit, eq_self, and_true, true_and, and_self, not_true_eq_false, not_false_eq_true, or_true, true_or, or_false, false_or, false_and, and_false, reduceCtorEq, Nat.add_left_cancel_iff, Nat.add_zero, Nat.zero_add, cd_all h, ep, q3]; done))
        | ((with_reducible refine e_in ?_ ?_); focus (simp (disch := omega) only [b_all, sV_all, ↓reduceIte, Nat.reduceEqDiff, Nat.reduceLT, Nat.reduceLeDiff, Nat.reduceAdd, Nat.reduceMul, Nat.reduceSub, i_lit, eq_self, and_true, true_and, and_self, not_true_eq_false, not_false_eq_true, or_true, true_or, or_false, false_or, false_and, and_false, reduceCtorEq, Nat.add_left_cancel_iff, Nat.add_zero, Nat.zero_add, cd_all h, ep, q3]; done))
        | fail)
      first | with_reducible rfl | simp (disch := omega) only [b_all, sV_all, ↓reduceIte, Nat.reduceEqDiff, Nat.reduceLT, Nat.reduceLeDiff, Nat.reduceAdd, Nat.reduceMul, Nat.reduceSub, i_lit, eq_self, and_true, true_and, and_self, not_true_eq_false, not_false_eq_true, or_true, true_or, or_false, false_or, false_and, and_false, reduceCtorEq, Nat.add_left_cancel_iff, Nat.add_zero, Nat.zero_add, cd_all h, ep, q3]
    · rw [bp_f c2] at ep
      have q2 := c_needS0 (k := k) h rm
      refine simX2 r i ?_ (fun C1 M1 h1 => m_crash_ise (k := k) h1 b c1 c2)
      unfold fX4_crash
      repeat (first
        | (with_reducible refine e_l1 ?_)
        | ((with_reducible refine e_k ?_ (kB h) ?_); focus rfl)
        | ((with_reducible refine e_p ?_ (p_s h) ?_); focus rfl)
        | ((with_reducible refine e_p ?_ (p_t h) ?_); focus rfl)
        | ((with_reducible refine e_p ?_ (p_l h) ?_); focus rfl)
        | ((with_reducible refine e_p ?_ (p_f h) ?_); focus rfl)
        | ((with_reducible refine e_o2 ?_ q1 ?_); focus (first | with_reducible rfl | (simp (disch := omega) only [b_all, sV_all, ↓reduceIte, Nat.reduceEqDiff, Nat.reduceLT, Nat.reduceLeDiff, Nat.reduceAdd, Nat.reduceMul, Nat.reduceSub, i_lit, eq_self, and_true, true_and, and_self, not_true_eq_false, not_false_eq_true, or_true, true_or, or_false, false_or, false_and, and_false, reduceCtorEq, Nat.add_left_cancel_iff, Nat.add_zero, Nat.zero_add, cd_all h, ep]; done)))
        | ((with_reducible refine e_o2 ?_ q2 ?_); focus (first | with_reducible rfl | (simp (disch := omega) only [b_all, sV_all, ↓reduceIte, Nat.reduceEqDiff, Nat.reduceLT, Nat.reduceLeDiff, Nat.reduceAdd, Nat.reduceMul, Nat.reduceSub, i_lit, eq_self, and_true, true_and, and_self, not_true_eq_false, not_false_eq_true, or_true, true_or, or_false, false_or, false_and, and_false, reduceCtorEq, Nat.add_left_cancel_iff, Nat.add_zero, Nat.zero_add, cd_all h, ep]; done)))
        | ((with_reducible refine e_T ?_ q1 ?_); focus (first | with_reducible rfl | (simp (disch := omega) only [b_all, sV_all, ↓reduceIte, Nat.reduceEqDiff, Nat.reduceLT, Nat.reduceLeDiff, Nat.reduceAdd, Nat.reduceMul, Nat.reduceSub, i_lit, eq_self, and_true, true_and, and_self, not_true_eq_false, not_false_eq_true, or_true, true_or, or_false, false_or, false_and, and_false, reduceCtorEq, Nat.add_left_cancel_iff, Nat.add_zero, Nat.zero_add, cd_all h, ep]; done)))
        | ((with_reducible refine e_X ?_ q1 ?_); focus (first | with_reducible rfl | (simp (disch := omega) only [b_all, sV_all, ↓reduceIte, Nat.reduceEqDiff, Nat.reduceLT, Nat.reduceLeDiff, Nat.reduceAdd, Nat.reduceMul, Nat.reduceSub, i_lit, eq_self, and_true, true_and, and_self, not_true_eq_false, not_false_eq_true, or_true, true_or, or_false, false_or, false_and, and_false, reduceCtorEq, Nat.add_left_cancel_iff, Nat.add_zero, Nat.zero_add, cd_all h, ep]; done)))
        | ((with_reducible refine e_T ?_ q2 ?_); focus (first | with_reducible rfl | (simp (disch := omega) only [b_all, sV_all, ↓reduceIte, Nat.reduceEqDiff, Nat.reduceLT, Nat.reduceLeDiff, Nat.reduceAdd, Nat.reduceMul, Nat.reduceSub, i_lit, eq_self, and_true, true_and, and_self, not_true_eq_false, not_false_eq_true, or_true, true_or, or_false, false_or, false_and, and_false, reduceCtorEq, Nat.add_left_cancel_iff, Nat.add_zero, Nat.zero_add, cd_all h, ep]; done)))
        | ((with_reducible refine e_X ?_ q2 ?_); focus (first | with_reducible rfl | (simp (disch := omega) only [b_all, sV_all, ↓reduceIte, Nat.reduceEqDiff, Nat.reduceLT, Nat.reduceLeDiff, Nat.reduceAdd, Nat.reduceMul, Nat.reduceSub, i_lit, eq_self, and_true, true_and, and_self, not_true_eq_false, not_false_eq_true, or_true, true_or, or_false, false_or, false_and, and_false, reduceCtorEq, Nat.add_left_cancel_iff, Nat.add_zero, Nat.zero_add, cd_all h, ep]; done)))
        | ((with_reducible apply e_o1); focus (simp (disch := omega) only [b_all, sV_all, ↓reduceIte, Nat.reduceEqDiff, Nat.reduceLT, Nat.reduceLeDiff, Nat.reduceAdd, Nat.reduceMul, Nat.reduceSub, i_lit, eq_self, and_true, true_and, and_self, not_true_eq_false, not_false_eq_true, or_true, true_or, or_false, false_or, false_and, and_false, reduceCtorEq, Nat.add_left_cancel_iff, Nat.add_zero, Nat.zero_add, cd_all h, ep]; first | done | rfl))
        | ((with_reducible refine e_ip ?_ ?_); focus (simp (disch := omega) only [b_all, sV_all, ↓reduceIte, Nat.reduceEqDiff, Nat.reduceLT, Nat.reduceLeDiff, Nat.reduceAdd, Nat.reduceMul, Nat.reduceSub, i_lit, eq_self, and_true, true_and, and_self, not_true_eq_false, not_false_eq_true, or_true, true_or, or_false, false_or, false_and, and_false, reduceCtorEq, Nat.add_left_cancel_iff, Nat.add_zero, Nat.zero_add, cd_all h, ep]; done))
        | ((with_reducible refine e_in ?_ ?_); focus (simp (disch := omega) only [b_all, sV_all, ↓reduceIte, Nat.reduceEqDiff, Nat.reduceLT, Nat.reduceLeDiff, Nat.reduceAdd, Nat.reduceMul, Nat.reduceSub, i_lit, eq_self, and_true, true_and, and_self, not_true_eq_false, not_false_eq_true, or_true, true_or, or_false, false_or, false_and, and_false, reduceCtorEq, Nat.add_left_cancel_iff, Nat.add_zero, Nat.zero_add, cd_all h, ep]; done))
        | fail)
      first | with_reducible rfl | simp (disch := omega) only [b_all, sV_all, ↓reduceIte, Nat.reduceEqDiff, Nat.reduceLT, Nat.reduceLeDiff, Nat.reduceAdd, Nat.reduceMul, Nat.reduceSub, i_lit, eq_self, and_true, true_and, and_self, not_true_eq_false, not_false_eq_true, or_true, true_or, or_false, false_or, false_and, and_false, reduceCtorEq, Nat.add_left_cancel_iff, Nat.add_zero, Nat.zero_add, cd_all h, ep]
  · have q1 := c_site0 (k := k) h r.q rm hs' (by omega : ¬ s < C 0 4)
    refine simX1 r i ?_ (fun C1 M1 h1 => m_crash_iae (k := k) h1 b hs' c1)
    unfold fX4_crash
    repeat (first
      | (with_reducible refine e_l1 ?_)
      | ((with_reducible refine e_k ?_ (kB h) ?_); focus rfl)
      | ((with_reducible refine e_p ?_ (p_s h) ?_); focus rfl)
      | ((with_reducible refine e_p ?_ (p_t h) ?_); focus rfl)
      | ((with_reducible refine e_p ?_ (p_l h) ?_); focus rfl)
      | ((with_reducible refine e_p ?_ (p_f h) ?_); focus rfl)
      | ((with_reducible refine e_o2 ?_ q1 ?_); focus (first | with_reducible rfl | (simp (disch := omega) only [b_all, sV_all, ↓reduceIte, Nat.reduceEqDiff, Nat.reduceLT, Nat.reduceLeDiff, Nat.reduceAdd, Nat.reduceMul, Nat.reduceSub, i_lit, eq_self, and_true, true_and, and_self, not_true_eq_false, not_false_eq_true, or_true, true_or, or_false, false_or, false_and, and_false, reduceCtorEq, Nat.add_left_cancel_iff, Nat.add_zero, Nat.zero_add, cd_all h]; done)))
      | ((with_reducible refine e_T ?_ q1 ?_); focus (first | with_reducible rfl | (simp (disch := omega) only [b_all, sV_all, ↓reduceIte, Nat.reduceEqDiff, Nat.reduceLT, Nat.reduceLeDiff, Nat.reduceAdd, Nat.reduceMul, Nat.reduceSub, i_lit, eq_self, and_true, true_and, and_self, not_true_eq_false, not_false_eq_true, or_true, true_or, or_false, false_or, false_and, and_false, reduceCtorEq, Nat.add_left_cancel_iff, Nat.add_zero, Nat.zero_add, cd_all h]; done)))
      | ((with_reducible refine e_X ?_ q1 ?_); focus (first | with_reducible rfl | (simp (disch := omega) only [b_all, sV_all, ↓reduceIte, Nat.reduceEqDiff, Nat.reduceLT, Nat.reduceLeDiff, Nat.reduceAdd, Nat.reduceMul, Nat.reduceSub, i_lit, eq_self, and_true, true_and, and_self, not_true_eq_false, not_false_eq_true, or_true, true_or, or_false, false_or, false_and, and_false, reduceCtorEq, Nat.add_left_cancel_iff, Nat.add_zero, Nat.zero_add, cd_all h]; done)))
      | ((with_reducible apply e_o1); focus (simp (disch := omega) only [b_all, sV_all, ↓reduceIte, Nat.reduceEqDiff, Nat.reduceLT, Nat.reduceLeDiff, Nat.reduceAdd, Nat.reduceMul, Nat.reduceSub, i_lit, eq_self, and_true, true_and, and_self, not_true_eq_false, not_false_eq_true, or_true, true_or, or_false, false_or, false_and, and_false, reduceCtorEq, Nat.add_left_cancel_iff, Nat.add_zero, Nat.zero_add, cd_all h]; first | done | rfl))
      | ((with_reducible refine e_ip ?_ ?_); focus (simp (disch := omega) only [b_all, sV_all, ↓reduceIte, Nat.reduceEqDiff, Nat.reduceLT, Nat.reduceLeDiff, Nat.reduceAdd, Nat.reduceMul, Nat.reduceSub, i_lit, eq_self, and_true, true_and, and_self, not_true_eq_false, not_false_eq_true, or_true, true_or, or_false, false_or, false_and, and_false, reduceCtorEq, Nat.add_left_cancel_iff, Nat.add_zero, Nat.zero_add, cd_all h]; done))
      | ((with_reducible refine e_in ?_ ?_); focus (simp (disch := omega) only [b_all, sV_all, ↓reduceIte, Nat.reduceEqDiff, Nat.reduceLT, Nat.reduceLeDiff, Nat.reduceAdd, Nat.reduceMul, Nat.reduceSub, i_lit, eq_self, and_true, true_and, and_self, not_true_eq_false, not_false_eq_true, or_true, true_or, or_false, false_or, false_and, and_false, reduceCtorEq, Nat.add_left_cancel_iff, Nat.add_zero, Nat.zero_add, cd_all h]; done))
      | fail)
    first | with_reducible rfl | simp (disch := omega) only [b_all, sV_all, ↓reduceIte, Nat.reduceEqDiff, Nat.reduceLT, Nat.reduceLeDiff, Nat.reduceAdd, Nat.reduceMul, Nat.reduceSub, i_lit, eq_self, and_true, true_and, and_self, not_true_eq_false, not_false_eq_true, or_true, true_or, or_false, false_or, false_and, and_false, reduceCtorEq, Nat.add_left_cancel_iff, Nat.add_zero, Nat.zero_add, cd_all h]
theorem c_restart37 (hk : 5000 ≤ k) {s : Nat} (hs : s < 5) (W : Ab) (C : Ab) (rx : Rx x C) : ∀ n t C' M, St x B C' W0 M → Rl C' (rsF W s t) → Kp C C' → t ≤ W 0 5 → W 0 5 < n + t → ∃ C' M', fX4_restart_37 x k n B (i32 s) (i32 t) M = some (.inr (), M') ∧ St x B C' W0 M' ∧ Rl C' (rsF W s (W 0 5)) ∧ Kp C C' := by
  intro n
  induction n with
  | zero => intro t C' M _ _ _ h1 h2; omega
  | succ n ih =>
    intro t C' M h r kp ht hn
    have w05 : rsF W s t 0 5 = W 0 5 := rsF_0 _ _ (by omega) _
    have e5 := r.s.2.1
    rw [w05] at e5
    have hb := r.b
    rw [w05] at hb
    by_cases hc : W 0 5 ≤ t
    · obtain rfl : t = W 0 5 := by omega
      refine ⟨C', M, ?_, h, r, kp⟩
      rw [fX4_restart_37]
      repeat (first
        | (with_reducible refine e_l1 ?_)
        | ((with_reducible refine e_k ?_ (kB h) ?_); focus rfl)
        | ((with_reducible refine e_p ?_ (p_s h) ?_); focus rfl)
        | ((with_reducible refine e_p ?_ (p_t h) ?_); focus rfl)
        | ((with_reducible refine e_p ?_ (p_l h) ?_); focus rfl)
        | ((with_reducible refine e_p ?_ (p_f h) ?_); focus rfl)
        | ((with_reducible apply e_o1); focus (simp (disch := omega) only [b_all, sV_all, ↓reduceIte, Nat.reduceEqDiff, Nat.reduceLT, Nat.reduceLeDiff, Nat.reduceAdd, Nat.reduceMul, Nat.reduceSub, i_lit, eq_self, and_true, true_and, and_self, not_true_eq_false, not_false_eq_true, or_true, true_or, or_false, false_or, false_and, and_false, reduceCtorEq, Nat.add_left_cancel_iff, Nat.add_zero, Nat.zero_add, cd_all h, e5]; first | done | rfl))
        | ((with_reducible refine e_ip ?_ ?_); focus (simp (disch := omega) only [b_all, sV_all, ↓reduceIte, Nat.reduceEqDiff, Nat.reduceLT, Nat.reduceLeDiff, Nat.reduceAdd, Nat.reduceMul, Nat.reduceSub, i_lit, eq_self, and_true, true_and, and_self, not_true_eq_false, not_false_eq_true, or_true, true_or, or_false, false_or, false_and, and_false, reduceCtorEq, Nat.add_left_cancel_iff, Nat.add_zero, Nat.zero_add, cd_all h, e5]; done))
        | ((with_reducible refine e_in ?_ ?_); focus (simp (disch := omega) only [b_all, sV_all, ↓reduceIte, Nat.reduceEqDiff, Nat.reduceLT, Nat.reduceLeDiff, Nat.reduceAdd, Nat.reduceMul, Nat.reduceSub, i_lit, eq_self, and_true, true_and, and_self, not_true_eq_false, not_false_eq_true, or_true, true_or, or_false, false_or, false_and, and_false, reduceCtorEq, Nat.add_left_cancel_iff, Nat.add_zero, Nat.zero_add, cd_all h, e5]; done))
        | fail)
      first | with_reducible rfl | simp (disch := omega) only [b_all, sV_all, ↓reduceIte, Nat.reduceEqDiff, Nat.reduceLT, Nat.reduceLeDiff, Nat.reduceAdd, Nat.reduceMul, Nat.reduceSub, i_lit, eq_self, and_true, true_and, and_self, not_true_eq_false, not_false_eq_true, or_true, true_or, or_false, false_or, false_and, and_false, reduceCtorEq, Nat.add_left_cancel_iff, Nat.add_zero, Nat.zero_add, cd_all h, e5]
    · have hl : t < rsF W s t 0 5 := by omega
      have ht' := r.c hl
      have eg := c_get0 (k := k) h r.q ht'
      have e1 := (r.t hl).1.2.1
      have e15 := (r.t hl).1.2.2.2.2.2
      have w4 : rsF W s t 4 t = W 4 t := rsF_r _ _ (by omega) _ _
      have w19 : rsF W s t 19 t = W 19 t := rsF_19 _ _ _ (Nat.le_refl _)
      rw [w4] at e1
      rw [w19] at e15
      have h4 := r.s4 hl
      rw [w4] at h4
      by_cases c1 : W 4 t = s
      · by_cases c2 : W 19 t ≠ 0
        · rw [bp_t c2] at e15
          have h1 := suT0 h ht' 15 0
          have r1 := rl_owes r hl (v := 0)
          rw [bp_f (by omega)] at r1
          have hl1 : t < U (rsF W s t) 19 t 0 0 5 := by rw [U_r _ (by omega)]; exact hl
          have kp1 : Kp C' (U C' (100 + 5 * t) 15 0) := Kp.low (fun a j q1 q2 => U_r _ (by omega) _ _ _)
          obtain ⟨C2, M2, q2, h2, r2, kp2⟩ := c_give (k := k) hk h1 r1 ((kp.trans kp1).rx rx) hl1
          rw [kp1.2.1 t] at q2
          have ec : rsF W s (t + 1) = wFrees (U (rsF W s t) 19 t 0) t := if_pos ⟨c1, c2⟩
          rw [← ec] at r2
          obtain ⟨C4, M4, e4, h4', r4, kp4⟩ := ih (t + 1) _ _ h2 r2 (kp.trans (kp1.trans kp2)) (by omega) (by omega)
          refine ⟨C4, M4, ?_, h4', r4, kp4⟩
          rw [← e4, fX4_restart_37]
          repeat (first
            | (with_reducible refine e_l1 ?_)
            | ((with_reducible refine e_k ?_ (kB h) ?_); focus rfl)
            | ((with_reducible refine e_p ?_ (p_s h) ?_); focus rfl)
            | ((with_reducible refine e_p ?_ (p_t h) ?_); focus rfl)
            | ((with_reducible refine e_p ?_ (p_l h) ?_); focus rfl)
            | ((with_reducible refine e_p ?_ (p_f h) ?_); focus rfl)
            | ((with_reducible refine e_o2 ?_ eg ?_); focus (first | with_reducible rfl | (simp (disch := omega) only [b_all, sV_all, ↓reduceIte, Nat.reduceEqDiff, Nat.reduceLT, Nat.reduceLeDiff, Nat.reduceAdd, Nat.reduceMul, Nat.reduceSub, i_lit, eq_self, and_true, true_and, and_self, not_true_eq_false, not_false_eq_true, or_true, true_or, or_false, false_or, false_and, and_false, reduceCtorEq, Nat.add_left_cancel_iff, Nat.add_zero, Nat.zero_add, cd_all h, e5, e1, e15]; done)))
            | ((with_reducible refine e_o2 ?_ q2 ?_); focus (first | with_reducible rfl | (simp (disch := omega) only [b_all, sV_all, ↓reduceIte, Nat.reduceEqDiff, Nat.reduceLT, Nat.reduceLeDiff, Nat.reduceAdd, Nat.reduceMul, Nat.reduceSub, i_lit, eq_self, and_true, true_and, and_self, not_true_eq_false, not_false_eq_true, or_true, true_or, or_false, false_or, false_and, and_false, reduceCtorEq, Nat.add_left_cancel_iff, Nat.add_zero, Nat.zero_add, cd_all h, e5, e1, e15]; done)))
            | ((with_reducible refine e_T ?_ eg ?_); focus (first | with_reducible rfl | (simp (disch := omega) only [b_all, sV_all, ↓reduceIte, Nat.reduceEqDiff, Nat.reduceLT, Nat.reduceLeDiff, Nat.reduceAdd, Nat.reduceMul, Nat.reduceSub, i_lit, eq_self, and_true, true_and, and_self, not_true_eq_false, not_false_eq_true, or_true, true_or, or_false, false_or, false_and, and_false, reduceCtorEq, Nat.add_left_cancel_iff, Nat.add_zero, Nat.zero_add, cd_all h, e5, e1, e15]; done)))
            | ((with_reducible refine e_X ?_ eg ?_); focus (first | with_reducible rfl | (simp (disch := omega) only [b_all, sV_all, ↓reduceIte, Nat.reduceEqDiff, Nat.reduceLT, Nat.reduceLeDiff, Nat.reduceAdd, Nat.reduceMul, Nat.reduceSub, i_lit, eq_self, and_true, true_and, and_self, not_true_eq_false, not_false_eq_true, or_true, true_or, or_false, false_or, false_and, and_false, reduceCtorEq, Nat.add_left_cancel_iff, Nat.add_zero, Nat.zero_add, cd_all h, e5, e1, e15]; done)))
            | ((with_reducible refine e_T ?_ q2 ?_); focus (first | with_reducible rfl | (simp (disch := omega) only [b_all, sV_all, ↓reduceIte, Nat.reduceEqDiff, Nat.reduceLT, Nat.reduceLeDiff, Nat.reduceAdd, Nat.reduceMul, Nat.reduceSub, i_lit, eq_self, and_true, true_and, and_self, not_true_eq_false, not_false_eq_true, or_true, true_or, or_false, false_or, false_and, and_false, reduceCtorEq, Nat.add_left_cancel_iff, Nat.add_zero, Nat.zero_add, cd_all h, e5, e1, e15]; done)))
            | ((with_reducible refine e_X ?_ q2 ?_); focus (first | with_reducible rfl | (simp (disch := omega) only [b_all, sV_all, ↓reduceIte, Nat.reduceEqDiff, Nat.reduceLT, Nat.reduceLeDiff, Nat.reduceAdd, Nat.reduceMul, Nat.reduceSub, i_lit, eq_self, and_true, true_and, and_self, not_true_eq_false, not_false_eq_true, or_true, true_or, or_false, false_or, false_and, and_false, reduceCtorEq, Nat.add_left_cancel_iff, Nat.add_zero, Nat.zero_add, cd_all h, e5, e1, e15]; done)))
            | ((with_reducible apply e_o1); focus (simp (disch := omega) only [b_all, sV_all, ↓reduceIte, Nat.reduceEqDiff, Nat.reduceLT, Nat.reduceLeDiff, Nat.reduceAdd, Nat.reduceMul, Nat.reduceSub, i_lit, eq_self, and_true, true_and, and_self, not_true_eq_false, not_false_eq_true, or_true, true_or, or_false, false_or, false_and, and_false, reduceCtorEq, Nat.add_left_cancel_iff, Nat.add_zero, Nat.zero_add, cd_all h, e5, e1, e15]; first | done | rfl))
            | ((with_reducible refine e_ip ?_ ?_); focus (simp (disch := omega) only [b_all, sV_all, ↓reduceIte, Nat.reduceEqDiff, Nat.reduceLT, Nat.reduceLeDiff, Nat.reduceAdd, Nat.reduceMul, Nat.reduceSub, i_lit, eq_self, and_true, true_and, and_self, not_true_eq_false, not_false_eq_true, or_true, true_or, or_false, false_or, false_and, and_false, reduceCtorEq, Nat.add_left_cancel_iff, Nat.add_zero, Nat.zero_add, cd_all h, e5, e1, e15]; done))
            | ((with_reducible refine e_in ?_ ?_); focus (simp (disch := omega) only [b_all, sV_all, ↓reduceIte, Nat.reduceEqDiff, Nat.reduceLT, Nat.reduceLeDiff, Nat.reduceAdd, Nat.reduceMul, Nat.reduceSub, i_lit, eq_self, and_true, true_and, and_self, not_true_eq_false, not_false_eq_true, or_true, true_or, or_false, false_or, false_and, and_false, reduceCtorEq, Nat.add_left_cancel_iff, Nat.add_zero, Nat.zero_add, cd_all h, e5, e1, e15]; done))
            | unfold fX4_restart_82
            | fail)
          first | with_reducible rfl | simp (disch := omega) only [b_all, sV_all, ↓reduceIte, Nat.reduceEqDiff, Nat.reduceLT, Nat.reduceLeDiff, Nat.reduceAdd, Nat.reduceMul, Nat.reduceSub, i_lit, eq_self, and_true, true_and, and_self, not_true_eq_false, not_false_eq_true, or_true, true_or, or_false, false_or, false_and, and_false, reduceCtorEq, Nat.add_left_cancel_iff, Nat.add_zero, Nat.zero_add, cd_all h, e5, e1, e15]
        · rw [bp_f c2] at e15
          have ec : rsF W s (t + 1) = rsF W s t := if_neg (fun z => c2 z.2)
          rw [← ec] at r
          obtain ⟨C4, M4, e4, h4', r4, kp4⟩ := ih (t + 1) _ _ h r kp (by omega) (by omega)
          refine ⟨C4, M4, ?_, h4', r4, kp4⟩
          rw [← e4, fX4_restart_37]
          repeat (first
            | (with_reducible refine e_l1 ?_)
            | ((with_reducible refine e_k ?_ (kB h) ?_); focus rfl)
            | ((with_reducible refine e_p ?_ (p_s h) ?_); focus rfl)
            | ((with_reducible refine e_p ?_ (p_t h) ?_); focus rfl)
            | ((with_reducible refine e_p ?_ (p_l h) ?_); focus rfl)
            | ((with_reducible refine e_p ?_ (p_f h) ?_); focus rfl)
            | ((with_reducible refine e_o2 ?_ eg ?_); focus (first | with_reducible rfl | (simp (disch := omega) only [b_all, sV_all, ↓reduceIte, Nat.reduceEqDiff, Nat.reduceLT, Nat.reduceLeDiff, Nat.reduceAdd, Nat.reduceMul, Nat.reduceSub, i_lit, eq_self, and_true, true_and, and_self, not_true_eq_false, not_false_eq_true, or_true, true_or, or_false, false_or, false_and, and_false, reduceCtorEq, Nat.add_left_cancel_iff, Nat.add_zero, Nat.zero_add, cd_all h, e5, e1, e15]; done)))
            | ((with_reducible refine e_T ?_ eg ?_); focus (first | with_reducible rfl | (simp (disch := omega) only [b_all, sV_all, ↓reduceIte, Nat.reduceEqDiff, Nat.reduceLT, Nat.reduceLeDiff, Nat.reduceAdd, Nat.reduceMul, Nat.reduceSub, i_lit, eq_self, and_true, true_and, and_self, not_true_eq_false, not_false_eq_true, or_true, true_or, or_false, false_or, false_and, and_false, reduceCtorEq, Nat.add_left_cancel_iff, Nat.add_zero, Nat.zero_add, cd_all h, e5, e1, e15]; done)))
            | ((with_reducible refine e_X ?_ eg ?_); focus (first | with_reducible rfl | (simp (disch := omega) only [b_all, sV_all, ↓reduceIte, Nat.reduceEqDiff, Nat.reduceLT, Nat.reduceLeDiff, Nat.reduceAdd, Nat.reduceMul, Nat.reduceSub, i_lit, eq_self, and_true, true_and, and_self, not_true_eq_false, not_false_eq_true, or_true, true_or, or_false, false_or, false_and, and_false, reduceCtorEq, Nat.add_left_cancel_iff, Nat.add_zero, Nat.zero_add, cd_all h, e5, e1, e15]; done)))
            | ((with_reducible apply e_o1); focus (simp (disch := omega) only [b_all, sV_all, ↓reduceIte, Nat.reduceEqDiff, Nat.reduceLT, Nat.reduceLeDiff, Nat.reduceAdd, Nat.reduceMul, Nat.reduceSub, i_lit, eq_self, and_true, true_and, and_self, not_true_eq_false, not_false_eq_true, or_true, true_or, or_false, false_or, false_and, and_false, reduceCtorEq, Nat.add_left_cancel_iff, Nat.add_zero, Nat.zero_add, cd_all h, e5, e1, e15]; first | done | rfl))
            | ((with_reducible refine e_ip ?_ ?_); focus (simp (disch := omega) only [b_all, sV_all, ↓reduceIte, Nat.reduceEqDiff, Nat.reduceLT, Nat.reduceLeDiff, Nat.reduceAdd, Nat.reduceMul, Nat.reduceSub, i_lit, eq_self, and_true, true_and, and_self, not_true_eq_false, not_false_eq_true, or_true, true_or, or_false, false_or, false_and, and_false, reduceCtorEq, Nat.add_left_cancel_iff, Nat.add_zero, Nat.zero_add, cd_all h, e5, e1, e15]; done))
            | ((with_reducible refine e_in ?_ ?_); focus (simp (disch := omega) only [b_all, sV_all, ↓reduceIte, Nat.reduceEqDiff, Nat.reduceLT, Nat.reduceLeDiff, Nat.reduceAdd, Nat.reduceMul, Nat.reduceSub, i_lit, eq_self, and_true, true_and, and_self, not_true_eq_false, not_false_eq_true, or_true, true_or, or_false, false_or, false_and, and_false, reduceCtorEq, Nat.add_left_cancel_iff, Nat.add_zero, Nat.zero_add, cd_all h, e5, e1, e15]; done))
            | unfold fX4_restart_82
            | fail)
          first | with_reducible rfl | simp (disch := omega) only [b_all, sV_all, ↓reduceIte, Nat.reduceEqDiff, Nat.reduceLT, Nat.reduceLeDiff, Nat.reduceAdd, Nat.reduceMul, Nat.reduceSub, i_lit, eq_self, and_true, true_and, and_self, not_true_eq_false, not_false_eq_true, or_true, true_or, or_false, false_or, false_and, and_false, reduceCtorEq, Nat.add_left_cancel_iff, Nat.add_zero, Nat.zero_add, cd_all h, e5, e1, e15]
      · have ec : rsF W s (t + 1) = rsF W s t := if_neg (fun z => c1 z.1)
        rw [← ec] at r
        obtain ⟨C4, M4, e4, h4', r4, kp4⟩ := ih (t + 1) _ _ h r kp (by omega) (by omega)
        refine ⟨C4, M4, ?_, h4', r4, kp4⟩
        rw [← e4, fX4_restart_37]
        repeat (first
          | (with_reducible refine e_l1 ?_)
          | ((with_reducible refine e_k ?_ (kB h) ?_); focus rfl)
          | ((with_reducible refine e_p ?_ (p_s h) ?_); focus rfl)
          | ((with_reducible refine e_p ?_ (p_t h) ?_); focus rfl)
          | ((with_reducible refine e_p ?_ (p_l h) ?_); focus rfl)
          | ((with_reducible refine e_p ?_ (p_f h) ?_); focus rfl)
          | ((with_reducible refine e_o2 ?_ eg ?_); focus (first | with_reducible rfl | (simp (disch := omega) only [b_all, sV_all, ↓reduceIte, Nat.reduceEqDiff, Nat.reduceLT, Nat.reduceLeDiff, Nat.reduceAdd, Nat.reduceMul, Nat.reduceSub, i_lit, eq_self, and_true, true_and, and_self, not_true_eq_false, not_false_eq_true, or_true, true_or, or_false, false_or, false_and, and_false, reduceCtorEq, Nat.add_left_cancel_iff, Nat.add_zero, Nat.zero_add, cd_all h, e5, e1]; done)))
          | ((with_reducible refine e_T ?_ eg ?_); focus (first | with_reducible rfl | (simp (disch := omega) only [b_all, sV_all, ↓reduceIte, Nat.reduceEqDiff, Nat.reduceLT, Nat.reduceLeDiff, Nat.reduceAdd, Nat.reduceMul, Nat.reduceSub, i_lit, eq_self, and_true, true_and, and_self, not_true_eq_false, not_false_eq_true, or_true, true_or, or_false, false_or, false_and, and_false, reduceCtorEq, Nat.add_left_cancel_iff, Nat.add_zero, Nat.zero_add, cd_all h, e5, e1]; done)))
          | ((with_reducible refine e_X ?_ eg ?_); focus (first | with_reducible rfl | (simp (disch := omega) only [b_all, sV_all, ↓reduceIte, Nat.reduceEqDiff, Nat.reduceLT, Nat.reduceLeDiff, Nat.reduceAdd, Nat.reduceMul, Nat.reduceSub, i_lit, eq_self, and_true, true_and, and_self, not_true_eq_false, not_false_eq_true, or_true, true_or, or_false, false_or, false_and, and_false, reduceCtorEq, Nat.add_left_cancel_iff, Nat.add_zero, Nat.zero_add, cd_all h, e5, e1]; done)))
          | ((with_reducible apply e_o1); focus (simp (disch := omega) only [b_all, sV_all, ↓reduceIte, Nat.reduceEqDiff, Nat.reduceLT, Nat.reduceLeDiff, Nat.reduceAdd, Nat.reduceMul, Nat.reduceSub, i_lit, eq_self, and_true, true_and, and_self, not_true_eq_false, not_false_eq_true, or_true, true_or, or_false, false_or, false_and, and_false, reduceCtorEq, Nat.add_left_cancel_iff, Nat.add_zero, Nat.zero_add, cd_all h, e5, e1]; first | done | rfl))
          | ((with_reducible refine e_ip ?_ ?_); focus (simp (disch := omega) only [b_all, sV_all, ↓reduceIte, Nat.reduceEqDiff, Nat.reduceLT, Nat.reduceLeDiff, Nat.reduceAdd, Nat.reduceMul, Nat.reduceSub, i_lit, eq_self, and_true, true_and, and_self, not_true_eq_false, not_false_eq_true, or_true, true_or, or_false, false_or, false_and, and_false, reduceCtorEq, Nat.add_left_cancel_iff, Nat.add_zero, Nat.zero_add, cd_all h, e5, e1]; done))
          | ((with_reducible refine e_in ?_ ?_); focus (simp (disch := omega) only [b_all, sV_all, ↓reduceIte, Nat.reduceEqDiff, Nat.reduceLT, Nat.reduceLeDiff, Nat.reduceAdd, Nat.reduceMul, Nat.reduceSub, i_lit, eq_self, and_true, true_and, and_self, not_true_eq_false, not_false_eq_true, or_true, true_or, or_false, false_or, false_and, and_false, reduceCtorEq, Nat.add_left_cancel_iff, Nat.add_zero, Nat.zero_add, cd_all h, e5, e1]; done))
          | unfold fX4_restart_82
          | fail)
        first | with_reducible rfl | simp (disch := omega) only [b_all, sV_all, ↓reduceIte, Nat.reduceEqDiff, Nat.reduceLT, Nat.reduceLeDiff, Nat.reduceAdd, Nat.reduceMul, Nat.reduceSub, i_lit, eq_self, and_true, true_and, and_self, not_true_eq_false, not_false_eq_true, or_true, true_or, or_false, false_or, false_and, and_false, reduceCtorEq, Nat.add_left_cancel_iff, Nat.add_zero, Nat.zero_add, cd_all h, e5, e1]
theorem sim_restart (hk : 5000 ≤ k) (h : St x B C W M) (r : Rl C W) (i : Inv W) (rx : Rx x C) {s : Nat} (hs' : s < 4294967296) : Sim x B 2 (fX4_restart x k B (i32 s)) (fX5_restart x k (B + 25) (i32 s)) C W M := by
  have e4 := r.s.1
  have b := i.1
  have hb := b.1
  have rm := rx.rm
  by_cases c1 : s < W 0 0
  · have q1 := c_site1 (k := k) h r.q (a := s) (by omega)
    have hs5 : s < 5 := by omega
    have ep := (r.p hs5).1
    by_cases c2 : W 2 s = 0
    · rw [bp_t c2] at ep
      have q2 := c_needS0 (k := k) h rm
      refine simX2 r i ?_ (fun C1 M1 h1 => m_restart_ise (k := k) h1 b c1 c2)
      unfold fX4_restart
      repeat (first
        | (with_reducible refine e_l1 ?_)
        | ((with_reducible refine e_k ?_ (kB h) ?_); focus rfl)
        | ((with_reducible refine e_p ?_ (p_s h) ?_); focus rfl)
        | ((with_reducible refine e_p ?_ (p_t h) ?_); focus rfl)
        | ((with_reducible refine e_p ?_ (p_l h) ?_); focus rfl)
        | ((with_reducible refine e_p ?_ (p_f h) ?_); focus rfl)
        | ((with_reducible refine e_o2 ?_ q1 ?_); focus (first | with_reducible rfl | (simp (disch := omega) only [b_all, sV_all, ↓reduceIte, Nat.reduceEqDiff, Nat.reduceLT, Nat.reduceLeDiff, Nat.reduceAdd, Nat.reduceMul, Nat.reduceSub, i_lit, eq_self, and_true, true_and, and_self, not_true_eq_false, not_false_eq_true, or_true, true_or, or_false, false_or, false_and, and_false, reduceCtorEq, Nat.add_left_cancel_iff, Nat.add_zero, Nat.zero_add, cd_all h, ep]; done)))
        | ((with_reducible refine e_o2 ?_ q2 ?_); focus (first | with_reducible rfl | (simp (disch := omega) only [b_all, sV_all, ↓reduceIte, Nat.reduceEqDiff, Nat.reduceLT, Nat.reduceLeDiff, Nat.reduceAdd, Nat.reduceMul, Nat.reduceSub, i_lit, eq_self, and_true, true_and, and_self, not_true_eq_false, not_false_eq_true, or_true, true_or, or_false, false_or, false_and, and_false, reduceCtorEq, Nat.add_left_cancel_iff, Nat.add_zero, Nat.zero_add, cd_all h, ep]; done)))
        | ((with_reducible refine e_T ?_ q1 ?_); focus (first | with_reducible rfl | (simp (disch := omega) only [b_all, sV_all, ↓reduceIte, Nat.reduceEqDiff, Nat.reduceLT, Nat.reduceLeDiff, Nat.reduceAdd, Nat.reduceMul, Nat.reduceSub, i_lit, eq_self, and_true, true_and, and_self, not_true_eq_false, not_false_eq_true, or_true, true_or, or_false, false_or, false_and, and_false, reduceCtorEq, Nat.add_left_cancel_iff, Nat.add_zero, Nat.zero_add, cd_all h, ep]; done)))
        | ((with_reducible refine e_X ?_ q1 ?_); focus (first | with_reducible rfl | (simp (disch := omega) only [b_all, sV_all, ↓reduceIte, Nat.reduceEqDiff, Nat.reduceLT, Nat.reduceLeDiff, Nat.reduceAdd, Nat.reduceMul, Nat.reduceSub, i_lit, eq_self, and_true, true_and, and_self, not_true_eq_false, not_false_eq_true, or_true, true_or, or_false, false_or, false_and, and_false, reduceCtorEq, Nat.add_left_cancel_iff, Nat.add_zero, Nat.zero_add, cd_all h, ep]; done)))
        | ((with_reducible refine e_T ?_ q2 ?_); focus (first | with_reducible rfl | (simp (disch := omega) only [b_all, sV_all, ↓reduceIte, Nat.reduceEqDiff, Nat.reduceLT, Nat.reduceLeDiff, Nat.reduceAdd, Nat.reduceMul, Nat.reduceSub, i_lit, eq_self, and_true, true_and, and_self, not_true_eq_false, not_false_eq_true, or_true, true_or, or_false, false_or, false_and, and_false, reduceCtorEq, Nat.add_left_cancel_iff, Nat.add_zero, Nat.zero_add, cd_all h, ep]; done)))
        | ((with_reducible refine e_X ?_ q2 ?_); focus (first | with_reducible rfl | (simp (disch := omega) only [b_all, sV_all, ↓reduceIte, Nat.reduceEqDiff, Nat.reduceLT, Nat.reduceLeDiff, Nat.reduceAdd, Nat.reduceMul, Nat.reduceSub, i_lit, eq_self, and_true, true_and, and_self, not_true_eq_false, not_false_eq_true, or_true, true_or, or_false, false_or, false_and, and_false, reduceCtorEq, Nat.add_left_cancel_iff, Nat.add_zero, Nat.zero_add, cd_all h, ep]; done)))
        | ((with_reducible apply e_o1); focus (simp (disch := omega) only [b_all, sV_all, ↓reduceIte, Nat.reduceEqDiff, Nat.reduceLT, Nat.reduceLeDiff, Nat.reduceAdd, Nat.reduceMul, Nat.reduceSub, i_lit, eq_self, and_true, true_and, and_self, not_true_eq_false, not_false_eq_true, or_true, true_or, or_false, false_or, false_and, and_false, reduceCtorEq, Nat.add_left_cancel_iff, Nat.add_zero, Nat.zero_add, cd_all h, ep]; first | done | rfl))
        | ((with_reducible refine e_ip ?_ ?_); focus (simp (disch := omega) only [b_all, sV_all, ↓reduceIte, Nat.reduceEqDiff, Nat.reduceLT, Nat.reduceLeDiff, Nat.reduceAdd, Nat.reduceMul, Nat.reduceSub, i_lit, eq_self, and_true, true_and, and_self, not_true_eq_false, not_false_eq_true, or_true, true_or, or_false, false_or, false_and, and_false, reduceCtorEq, Nat.add_left_cancel_iff, Nat.add_zero, Nat.zero_add, cd_all h, ep]; done))
        | ((with_reducible refine e_in ?_ ?_); focus (simp (disch := omega) only [b_all, sV_all, ↓reduceIte, Nat.reduceEqDiff, Nat.reduceLT, Nat.reduceLeDiff, Nat.reduceAdd, Nat.reduceMul, Nat.reduceSub, i_lit, eq_self, and_true, true_and, and_self, not_true_eq_false, not_false_eq_true, or_true, true_or, or_false, false_or, false_and, and_false, reduceCtorEq, Nat.add_left_cancel_iff, Nat.add_zero, Nat.zero_add, cd_all h, ep]; done))
        | unfold fX4_restart_22
        | fail)
      first | with_reducible rfl | simp (disch := omega) only [b_all, sV_all, ↓reduceIte, Nat.reduceEqDiff, Nat.reduceLT, Nat.reduceLeDiff, Nat.reduceAdd, Nat.reduceMul, Nat.reduceSub, i_lit, eq_self, and_true, true_and, and_self, not_true_eq_false, not_false_eq_true, or_true, true_or, or_false, false_or, false_and, and_false, reduceCtorEq, Nat.add_left_cancel_iff, Nat.add_zero, Nat.zero_add, cd_all h, ep]
    · rw [bp_f c2] at ep
      have q2 := c_needS1 (x := x) (k := k) (M := M)
      have h1 := suS0 h hs5 0 1
      have r1 := rl_up (rl_t00 r) (s := s) (v := 0) hs5
      rw [bp_t rfl] at r1
      have kp1 : Kp C (U C (2 + 4 * s) 0 1) := Kp.low (fun a j q1 q2 => U_r _ (by omega) _ _ _)
      have w05 : U (t00 W) 2 s 0 0 5 = W 0 5 := by rw [U_r _ (by omega)]; rfl
      obtain ⟨C2, M2, q3, h2, r2, kp2⟩ := c_restart37 (x := x) (k := k) hk hs5 (U (t00 W) 2 s 0) C rx k 0 _ _ h1 r1 kp1 (by omega) (by omega)
      rw [w05] at r2
      have i1 : Inv (U (t00 W) 2 s 0) := (inv_t00 i).dm (i.1.t00.u (by omega) _ (by decide)) (fun a j _ hn => U_r _ (fun z => hn (Or.inl z)) _ _ _)
      refine simK (v := ()) (W' := wRestart W s) ?_ h2 r2 (inv_rsF i1 s _ (by omega)) (by unfold wRestart; rw [rsF_0 _ _ (by omega), U_r _ (by omega)]; exact t00_27 W) kp2 (fun C1 M1 h1 => m_restart_ok (k := k) hk h1 b c1 c2)
      unfold fX4_restart
      repeat (first
        | (with_reducible refine e_l1 ?_)
        | ((with_reducible refine e_k ?_ (kB h) ?_); focus rfl)
        | ((with_reducible refine e_p ?_ (p_s h) ?_); focus rfl)
        | ((with_reducible refine e_p ?_ (p_t h) ?_); focus rfl)
        | ((with_reducible refine e_p ?_ (p_l h) ?_); focus rfl)
        | ((with_reducible refine e_p ?_ (p_f h) ?_); focus rfl)
        | ((with_reducible refine e_o2 ?_ q1 ?_); focus (first | with_reducible rfl | (simp (disch := omega) only [b_all, sV_all, ↓reduceIte, Nat.reduceEqDiff, Nat.reduceLT, Nat.reduceLeDiff, Nat.reduceAdd, Nat.reduceMul, Nat.reduceSub, i_lit, eq_self, and_true, true_and, and_self, not_true_eq_false, not_false_eq_true, or_true, true_or, or_false, false_or, false_and, and_false, reduceCtorEq, Nat.add_left_cancel_iff, Nat.add_zero, Nat.zero_add, cd_all h, ep, q3]; done)))
        | ((with_reducible refine e_o2 ?_ q2 ?_); focus (first | with_reducible rfl | (simp (disch := omega) only [b_all, sV_all, ↓reduceIte, Nat.reduceEqDiff, Nat.reduceLT, Nat.reduceLeDiff, Nat.reduceAdd, Nat.reduceMul, Nat.reduceSub, i_lit, eq_self, and_true, true_and, and_self, not_true_eq_false, not_false_eq_true, or_true, true_or, or_false, false_or, false_and, and_false, reduceCtorEq, Nat.add_left_cancel_iff, Nat.add_zero, Nat.zero_add, cd_all h, ep, q3]; done)))
        | ((with_reducible refine e_T ?_ q1 ?_); focus (first | with_reducible rfl | (simp (disch := omega) only [b_all, sV_all, ↓reduceIte, Nat.reduceEqDiff, Nat.reduceLT, Nat.reduceLeDiff, Nat.reduceAdd, Nat.reduceMul, Nat.reduceSub, i_lit, eq_self, and_true, true_and, and_self, not_true_eq_false, not_false_eq_true, or_true, true_or, or_false, false_or, false_and, and_false, reduceCtorEq, Nat.add_left_cancel_iff, Nat.add_zero, Nat.zero_add, cd_all h, ep, q3]; done)))
        | ((with_reducible refine e_X ?_ q1 ?_); focus (first | with_reducible rfl | (simp (disch := omega) only [b_all, sV_all, ↓reduceIte, Nat.reduceEqDiff, Nat.reduceLT, Nat.reduceLeDiff, Nat.reduceAdd, Nat.reduceMul, Nat.reduceSub, i_lit, eq_self, and_true, true_and, and_self, not_true_eq_false, not_false_eq_true, or_true, true_or, or_false, false_or, false_and, and_false, reduceCtorEq, Nat.add_left_cancel_iff, Nat.add_zero, Nat.zero_add, cd_all h, ep, q3]; done)))
        | ((with_reducible refine e_T ?_ q2 ?_); focus (first | with_reducible rfl | (simp (disch := omega) only [b_all, sV_all, ↓reduceIte, Nat.reduceEqDiff, Nat.reduceLT, Nat.reduceLeDiff, Nat.reduceAdd, Nat.reduceMul, Nat.reduceSub, i_lit, eq_self, and_true, true_and, and_self, not_true_eq_false, not_false_eq_true, or_true, true_or, or_false, false_or, false_and, and_false, reduceCtorEq, Nat.add_left_cancel_iff, Nat.add_zero, Nat.zero_add, cd_all h, ep, q3]; done)))
        | ((with_reducible refine e_X ?_ q2 ?_); focus (first | with_reducible rfl | (simp (disch := omega) only [b_all, sV_all, ↓reduceIte, Nat.reduceEqDiff, Nat.reduceLT, Nat.reduceLeDiff, Nat.reduceAdd, Nat.reduceMul, Nat.reduceSub, i_lit, eq_self, and_true, true_and, and_self, not_true_eq_false, not_false_eq_true, or_true, true_or, or_false, false_or, false_and, and_false, reduceCtorEq, Nat.add_left_cancel_iff, Nat.add_zero, Nat.zero_add, cd_all h, ep, q3]; done)))
        | ((with_reducible apply e_o1); focus (simp (disch := omega) only [b_all, sV_all, ↓reduceIte, Nat.reduceEqDiff, Nat.reduceLT, Nat.reduceLeDiff, Nat.reduceAdd, Nat.reduceMul, Nat.reduceSub, i_lit, eq_self, and_true, true_and, and_self, not_true_eq_false, not_false_eq_true, or_true, true_or, or_false, false_or, false_and, and_false, reduceCtorEq, Nat.add_left_cancel_iff, Nat.add_zero, Nat.zero_add, cd_all h, ep, q3]; first | done | rfl))
        | ((with_reducible refine e_ip ?_ ?_); focus (simp (disch := omega) only [b_all, sV_all, ↓reduceIte, Nat.reduceEqDiff, Nat.reduceLT, Nat.reduceLeDiff, Nat.reduceAdd, Nat.reduceMul, Nat.reduceSub, i_lit, eq_self, and_true, true_and, and_self, not_true_eq_false, not_false_eq_true, or_true, true_or, or_false, false_or, false_and, and_false, reduceCtorEq, Nat.add_left_cancel_iff, Nat.add_zero, Nat.zero_add, cd_all h, ep, q3]; done))
        | ((with_reducible refine e_in ?_ ?_); focus (simp (disch := omega) only [b_all, sV_all, ↓reduceIte, Nat.reduceEqDiff, Nat.reduceLT, Nat.reduceLeDiff, Nat.reduceAdd, Nat.reduceMul, Nat.reduceSub, i_lit, eq_self, and_true, true_and, and_self, not_true_eq_false, not_false_eq_true, or_true, true_or, or_false, false_or, false_and, and_false, reduceCtorEq, Nat.add_left_cancel_iff, Nat.add_zero, Nat.zero_add, cd_all h, ep, q3]; done))
        | unfold fX4_restart_22
        | fail)
      first | with_reducible rfl | simp (disch := omega) only [b_all, sV_all, ↓reduceIte, Nat.reduceEqDiff, Nat.reduceLT, Nat.reduceLeDiff, Nat.reduceAdd, Nat.reduceMul, Nat.reduceSub, i_lit, eq_self, and_true, true_and, and_self, not_true_eq_false, not_false_eq_true, or_true, true_or, or_false, false_or, false_and, and_false, reduceCtorEq, Nat.add_left_cancel_iff, Nat.add_zero, Nat.zero_add, cd_all h, ep, q3]
  · have q1 := c_site0 (k := k) h r.q rm hs' (by omega : ¬ s < C 0 4)
    refine simX1 r i ?_ (fun C1 M1 h1 => m_restart_iae (k := k) h1 b hs' c1)
    unfold fX4_restart
    repeat (first
      | (with_reducible refine e_l1 ?_)
      | ((with_reducible refine e_k ?_ (kB h) ?_); focus rfl)
      | ((with_reducible refine e_p ?_ (p_s h) ?_); focus rfl)
      | ((with_reducible refine e_p ?_ (p_t h) ?_); focus rfl)
      | ((with_reducible refine e_p ?_ (p_l h) ?_); focus rfl)
      | ((with_reducible refine e_p ?_ (p_f h) ?_); focus rfl)
      | ((with_reducible refine e_o2 ?_ q1 ?_); focus (first | with_reducible rfl | (simp (disch := omega) only [b_all, sV_all, ↓reduceIte, Nat.reduceEqDiff, Nat.reduceLT, Nat.reduceLeDiff, Nat.reduceAdd, Nat.reduceMul, Nat.reduceSub, i_lit, eq_self, and_true, true_and, and_self, not_true_eq_false, not_false_eq_true, or_true, true_or, or_false, false_or, false_and, and_false, reduceCtorEq, Nat.add_left_cancel_iff, Nat.add_zero, Nat.zero_add, cd_all h]; done)))
      | ((with_reducible refine e_T ?_ q1 ?_); focus (first | with_reducible rfl | (simp (disch := omega) only [b_all, sV_all, ↓reduceIte, Nat.reduceEqDiff, Nat.reduceLT, Nat.reduceLeDiff, Nat.reduceAdd, Nat.reduceMul, Nat.reduceSub, i_lit, eq_self, and_true, true_and, and_self, not_true_eq_false, not_false_eq_true, or_true, true_or, or_false, false_or, false_and, and_false, reduceCtorEq, Nat.add_left_cancel_iff, Nat.add_zero, Nat.zero_add, cd_all h]; done)))
      | ((with_reducible refine e_X ?_ q1 ?_); focus (first | with_reducible rfl | (simp (disch := omega) only [b_all, sV_all, ↓reduceIte, Nat.reduceEqDiff, Nat.reduceLT, Nat.reduceLeDiff, Nat.reduceAdd, Nat.reduceMul, Nat.reduceSub, i_lit, eq_self, and_true, true_and, and_self, not_true_eq_false, not_false_eq_true, or_true, true_or, or_false, false_or, false_and, and_false, reduceCtorEq, Nat.add_left_cancel_iff, Nat.add_zero, Nat.zero_add, cd_all h]; done)))
      | ((with_reducible apply e_o1); focus (simp (disch := omega) only [b_all, sV_all, ↓reduceIte, Nat.reduceEqDiff, Nat.reduceLT, Nat.reduceLeDiff, Nat.reduceAdd, Nat.reduceMul, Nat.reduceSub, i_lit, eq_self, and_true, true_and, and_self, not_true_eq_false, not_false_eq_true, or_true, true_or, or_false, false_or, false_and, and_false, reduceCtorEq, Nat.add_left_cancel_iff, Nat.add_zero, Nat.zero_add, cd_all h]; first | done | rfl))
      | ((with_reducible refine e_ip ?_ ?_); focus (simp (disch := omega) only [b_all, sV_all, ↓reduceIte, Nat.reduceEqDiff, Nat.reduceLT, Nat.reduceLeDiff, Nat.reduceAdd, Nat.reduceMul, Nat.reduceSub, i_lit, eq_self, and_true, true_and, and_self, not_true_eq_false, not_false_eq_true, or_true, true_or, or_false, false_or, false_and, and_false, reduceCtorEq, Nat.add_left_cancel_iff, Nat.add_zero, Nat.zero_add, cd_all h]; done))
      | ((with_reducible refine e_in ?_ ?_); focus (simp (disch := omega) only [b_all, sV_all, ↓reduceIte, Nat.reduceEqDiff, Nat.reduceLT, Nat.reduceLeDiff, Nat.reduceAdd, Nat.reduceMul, Nat.reduceSub, i_lit, eq_self, and_true, true_and, and_self, not_true_eq_false, not_false_eq_true, or_true, true_or, or_false, false_or, false_and, and_false, reduceCtorEq, Nat.add_left_cancel_iff, Nat.add_zero, Nat.zero_add, cd_all h]; done))
      | fail)
    first | with_reducible rfl | simp (disch := omega) only [b_all, sV_all, ↓reduceIte, Nat.reduceEqDiff, Nat.reduceLT, Nat.reduceLeDiff, Nat.reduceAdd, Nat.reduceMul, Nat.reduceSub, i_lit, eq_self, and_true, true_and, and_self, not_true_eq_false, not_false_eq_true, or_true, true_or, or_false, false_or, false_and, and_false, reduceCtorEq, Nat.add_left_cancel_iff, Nat.add_zero, Nat.zero_add, cd_all h]
end
