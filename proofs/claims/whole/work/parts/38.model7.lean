def saidO (W : Ab) (t s : Nat) : Prop := W 11 (5 * t + s) ≠ 0 → W 12 (5 * t + s) ≠ 0
def allSaid (W : Ab) (t : Nat) : Prop := al True (saidO W t) (W 0 0)
/-- crash, restart -/
def crF (W : Ab) (s : Nat) : Nat → Ab
  | 0 => W
  | t + 1 => if W 4 t = s ∧ W 5 t ≤ 1 then U (U (U (crF W s t) 9 (5 * t + s) 0) 19 t (if W 5 t = 1 then 1 else 0)) 5 t 4 else U (crF W s t) 9 (5 * t + s) 0
theorem crF_r (W : Ab) (s : Nat) {i : Nat} (hi : i ≠ 9 ∧ i ≠ 19 ∧ i ≠ 5) (j : Nat) : ∀ n, crF W s n i j = W i j
  | 0 => rfl
  | n + 1 => by
    unfold crF
    split
    · rw [U_r _ (by omega), U_r _ (by omega), U_r _ (by omega)]; exact crF_r W s hi j n
    · rw [U_r _ (by omega)]; exact crF_r W s hi j n
theorem crF_5 (W : Ab) (s : Nat) {j : Nat} : ∀ n, n ≤ j → crF W s n 5 j = W 5 j
  | 0, _ => rfl
  | n + 1, h => by
    unfold crF
    split
    · rw [U_k _ _ _ (by omega), U_r _ (by omega), U_r _ (by omega)]; exact crF_5 W s n (by omega)
    · rw [U_r _ (by omega)]; exact crF_5 W s n (by omega)
def wCrash (W : Ab) (s : Nat) : Ab := crF (U (t00 W) 2 s 1) s (W 0 5)
theorem wFrees_r (W : Ab) (t : Nat) {i : Nat} (hi : i ≠ 0 ∧ i ≠ 3 ∧ i ≠ 20) (j : Nat) : wFrees W t i j = W i j := by
  unfold wFrees; rw [skF_r _ _ _ _ (by omega), unl_r _ _ _ (by omega)]
theorem wFrees_0 (W : Ab) (t : Nat) {j : Nat} (hj : j ≠ 23 ∧ j ≠ 24) : wFrees W t 0 j = W 0 j := by
  unfold wFrees; rw [skF_k _ _ _ _ hj, unl_r _ _ _ (by omega)]
theorem bd_frees {W : Ab} (h : Bd W) {t : Nat} (ht : t < 200) : Bd (wFrees W t) := by
  unfold wFrees
  exact bd_skF (bd_unl h t _ 20) (by omega) (h.r (by omega) t) ht _ h.1.2.1
def rsF (W : Ab) (s : Nat) : Nat → Ab
  | 0 => W
  | t + 1 => if W 4 t = s ∧ W 19 t ≠ 0 then wFrees (U (rsF W s t) 19 t 0) t else rsF W s t
theorem rsF_r (W : Ab) (s : Nat) {i : Nat} (hi : i ≠ 0 ∧ i ≠ 3 ∧ i ≠ 20 ∧ i ≠ 19) (j : Nat) : ∀ n, rsF W s n i j = W i j
  | 0 => rfl
  | n + 1 => by
    unfold rsF
    split
    · rw [wFrees_r _ _ (by omega), U_r _ (by omega)]; exact rsF_r W s hi j n
    · exact rsF_r W s hi j n
theorem rsF_0 (W : Ab) (s : Nat) {j : Nat} (hj : j ≠ 23 ∧ j ≠ 24) : ∀ n, rsF W s n 0 j = W 0 j
  | 0 => rfl
  | n + 1 => by
    unfold rsF
    split
    · rw [wFrees_0 _ _ hj, U_r _ (by omega)]; exact rsF_0 W s hj n
    · exact rsF_0 W s hj n
theorem rsF_19 (W : Ab) (s : Nat) {j : Nat} : ∀ n, n ≤ j → rsF W s n 19 j = W 19 j
  | 0, _ => rfl
  | n + 1, h => by
    unfold rsF
    split
    · rw [wFrees_r _ _ (by omega), U_k _ _ _ (by omega)]; exact rsF_19 W s n (by omega)
    · exact rsF_19 W s n (by omega)
theorem bd_rsF {W : Ab} (h : Bd W) (s : Nat) : ∀ n, n ≤ 200 → Bd (rsF W s n)
  | 0, _ => h
  | n + 1, hn => by
    unfold rsF
    split
    · exact bd_frees ((bd_rsF h s n (by omega)).u (by omega) _ (by decide)) (by omega)
    · exact bd_rsF h s n (by omega)
def wRestart (W : Ab) (s : Nat) : Ab := rsF (U (t00 W) 2 s 0) s (W 0 5)
section
variable {x : Cx} {k B : Nat} {C W : Ab} {M : Mm}
theorem s_allSaid4 (h : St x B C W M) (hb : Bd W) {t : Nat} (ht : t < 200) : ∀ n j, j ≤ W 0 0 → W 0 0 < n + j → fX5_allSaid_4 x k n (B + 25) (i32 t) (i32 (bp (al True (saidO W t) j))) (i32 j) M = some (i32 (bp (al True (saidO W t) (W 0 0))), M) := by
  have h0 := hb.1
  intro n
  induction n with
  | zero => intro u h1 h2; omega
  | succ n ih =>
    intro j hj hn
    have hle := bp_le (al True (saidO W t) j)
    by_cases hc : W 0 0 ≤ j
    · obtain rfl : j = W 0 0 := by omega
      rw [fX5_allSaid_4]
      repeat (first
        | (with_reducible refine e_l1 ?_)
        | ((with_reducible refine e_k ?_ (mkM h) ?_); focus rfl)
        | ((with_reducible refine e_p ?_ (mp1 h) ?_); focus rfl)
        | ((with_reducible refine e_p ?_ (mp2 h) ?_); focus rfl)
        | ((with_reducible refine e_p ?_ (mp3 h) ?_); focus rfl)
        | ((with_reducible refine e_p ?_ (mp4 h) ?_); focus rfl)
        | ((with_reducible refine e_p ?_ (mp5 h) ?_); focus rfl)
        | ((with_reducible refine e_p ?_ (mp6 h) ?_); focus rfl)
        | ((with_reducible refine e_p ?_ (mp7 h) ?_); focus rfl)
        | ((with_reducible refine e_p ?_ (mp8 h) ?_); focus rfl)
        | ((with_reducible refine e_p ?_ (mp9 h) ?_); focus rfl)
        | ((with_reducible refine e_p ?_ (mp10 h) ?_); focus rfl)
        | ((with_reducible refine e_p ?_ (mp11 h) ?_); focus rfl)
        | ((with_reducible refine e_p ?_ (mp12 h) ?_); focus rfl)
        | ((with_reducible refine e_p ?_ (mp13 h) ?_); focus rfl)
        | ((with_reducible refine e_p ?_ (mp14 h) ?_); focus rfl)
        | ((with_reducible refine e_p ?_ (mp15 h) ?_); focus rfl)
        | ((with_reducible refine e_p ?_ (mp16 h) ?_); focus rfl)
        | ((with_reducible refine e_p ?_ (mp17 h) ?_); focus rfl)
        | ((with_reducible refine e_p ?_ (mp18 h) ?_); focus rfl)
        | ((with_reducible refine e_p ?_ (mp19 h) ?_); focus rfl)
        | ((with_reducible refine e_p ?_ (mp20 h) ?_); focus rfl)
        | ((with_reducible refine e_p ?_ (mp21 h) ?_); focus rfl)
        | ((with_reducible refine e_ip ?_ ?_); focus (simp (disch := omega) only [b_all, sV_all, ↓reduceIte, Nat.reduceEqDiff, Nat.reduceLT, Nat.reduceLeDiff, Nat.reduceAdd, Nat.reduceMul, Nat.reduceSub, i_lit, eq_self, and_true, true_and, and_self, not_true_eq_false, not_false_eq_true, or_true, true_or, or_false, false_or, false_and, and_false, reduceCtorEq, Nat.add_left_cancel_iff, Nat.add_zero, Nat.zero_add, md_all h]; done))
        | ((with_reducible refine e_in ?_ ?_); focus (simp (disch := omega) only [b_all, sV_all, ↓reduceIte, Nat.reduceEqDiff, Nat.reduceLT, Nat.reduceLeDiff, Nat.reduceAdd, Nat.reduceMul, Nat.reduceSub, i_lit, eq_self, and_true, true_and, and_self, not_true_eq_false, not_false_eq_true, or_true, true_or, or_false, false_or, false_and, and_false, reduceCtorEq, Nat.add_left_cancel_iff, Nat.add_zero, Nat.zero_add, md_all h]; done))
        | fail)
      first | with_reducible rfl | simp (disch := omega) only [b_all, sV_all, ↓reduceIte, Nat.reduceEqDiff, Nat.reduceLT, Nat.reduceLeDiff, Nat.reduceAdd, Nat.reduceMul, Nat.reduceSub, i_lit, eq_self, and_true, true_and, and_self, not_true_eq_false, not_false_eq_true, or_true, true_or, or_false, false_or, false_and, and_false, reduceCtorEq, Nat.add_left_cancel_iff, Nat.add_zero, Nat.zero_add, md_all h]
    · have e := ih (j + 1) (by omega) (by omega)
      rw [← e, fX5_allSaid_4]
      have h11 : W 11 (5 * t + j) < 2 := hb.r (by omega) _
      have h12 : W 12 (5 * t + j) < 2 := hb.r (by omega) _
      by_cases c1 : W 11 (5 * t + j) = 0
      · rw [al_t (show saidO W t j from fun z => absurd c1 z)]
        repeat (first
          | (with_reducible refine e_l1 ?_)
          | ((with_reducible refine e_k ?_ (mkM h) ?_); focus rfl)
          | ((with_reducible refine e_p ?_ (mp1 h) ?_); focus rfl)
          | ((with_reducible refine e_p ?_ (mp2 h) ?_); focus rfl)
          | ((with_reducible refine e_p ?_ (mp3 h) ?_); focus rfl)
          | ((with_reducible refine e_p ?_ (mp4 h) ?_); focus rfl)
          | ((with_reducible refine e_p ?_ (mp5 h) ?_); focus rfl)
          | ((with_reducible refine e_p ?_ (mp6 h) ?_); focus rfl)
          | ((with_reducible refine e_p ?_ (mp7 h) ?_); focus rfl)
          | ((with_reducible refine e_p ?_ (mp8 h) ?_); focus rfl)
          | ((with_reducible refine e_p ?_ (mp9 h) ?_); focus rfl)
          | ((with_reducible refine e_p ?_ (mp10 h) ?_); focus rfl)
          | ((with_reducible refine e_p ?_ (mp11 h) ?_); focus rfl)
          | ((with_reducible refine e_p ?_ (mp12 h) ?_); focus rfl)
          | ((with_reducible refine e_p ?_ (mp13 h) ?_); focus rfl)
          | ((with_reducible refine e_p ?_ (mp14 h) ?_); focus rfl)
          | ((with_reducible refine e_p ?_ (mp15 h) ?_); focus rfl)
          | ((with_reducible refine e_p ?_ (mp16 h) ?_); focus rfl)
          | ((with_reducible refine e_p ?_ (mp17 h) ?_); focus rfl)
          | ((with_reducible refine e_p ?_ (mp18 h) ?_); focus rfl)
          | ((with_reducible refine e_p ?_ (mp19 h) ?_); focus rfl)
          | ((with_reducible refine e_p ?_ (mp20 h) ?_); focus rfl)
          | ((with_reducible refine e_p ?_ (mp21 h) ?_); focus rfl)
          | ((with_reducible refine e_ip ?_ ?_); focus (simp (disch := omega) only [b_all, sV_all, ↓reduceIte, Nat.reduceEqDiff, Nat.reduceLT, Nat.reduceLeDiff, Nat.reduceAdd, Nat.reduceMul, Nat.reduceSub, i_lit, eq_self, and_true, true_and, and_self, not_true_eq_false, not_false_eq_true, or_true, true_or, or_false, false_or, false_and, and_false, reduceCtorEq, Nat.add_left_cancel_iff, Nat.add_zero, Nat.zero_add, md_all h]; done))
          | ((with_reducible refine e_in ?_ ?_); focus (simp (disch := omega) only [b_all, sV_all, ↓reduceIte, Nat.reduceEqDiff, Nat.reduceLT, Nat.reduceLeDiff, Nat.reduceAdd, Nat.reduceMul, Nat.reduceSub, i_lit, eq_self, and_true, true_and, and_self, not_true_eq_false, not_false_eq_true, or_true, true_or, or_false, false_or, false_and, and_false, reduceCtorEq, Nat.add_left_cancel_iff, Nat.add_zero, Nat.zero_add, md_all h]; done))
          | unfold fX5_allSaid_40
          | fail)
        first | with_reducible rfl | simp (disch := omega) only [b_all, sV_all, ↓reduceIte, Nat.reduceEqDiff, Nat.reduceLT, Nat.reduceLeDiff, Nat.reduceAdd, Nat.reduceMul, Nat.reduceSub, i_lit, eq_self, and_true, true_and, and_self, not_true_eq_false, not_false_eq_true, or_true, true_or, or_false, false_or, false_and, and_false, reduceCtorEq, Nat.add_left_cancel_iff, Nat.add_zero, Nat.zero_add, md_all h]
      · by_cases c2 : W 12 (5 * t + j) = 0
        · rw [al_f (show ¬ saidO W t j from fun z => z c1 c2)]
          repeat (first
            | (with_reducible refine e_l1 ?_)
            | ((with_reducible refine e_k ?_ (mkM h) ?_); focus rfl)
            | ((with_reducible refine e_p ?_ (mp1 h) ?_); focus rfl)
            | ((with_reducible refine e_p ?_ (mp2 h) ?_); focus rfl)
            | ((with_reducible refine e_p ?_ (mp3 h) ?_); focus rfl)
            | ((with_reducible refine e_p ?_ (mp4 h) ?_); focus rfl)
            | ((with_reducible refine e_p ?_ (mp5 h) ?_); focus rfl)
            | ((with_reducible refine e_p ?_ (mp6 h) ?_); focus rfl)
            | ((with_reducible refine e_p ?_ (mp7 h) ?_); focus rfl)
            | ((with_reducible refine e_p ?_ (mp8 h) ?_); focus rfl)
            | ((with_reducible refine e_p ?_ (mp9 h) ?_); focus rfl)
            | ((with_reducible refine e_p ?_ (mp10 h) ?_); focus rfl)
            | ((with_reducible refine e_p ?_ (mp11 h) ?_); focus rfl)
            | ((with_reducible refine e_p ?_ (mp12 h) ?_); focus rfl)
            | ((with_reducible refine e_p ?_ (mp13 h) ?_); focus rfl)
            | ((with_reducible refine e_p ?_ (mp14 h) ?_); focus rfl)
            | ((with_reducible refine e_p ?_ (mp15 h) ?_); focus rfl)
            | ((with_reducible refine e_p ?_ (mp16 h) ?_); focus rfl)
            | ((with_reducible refine e_p ?_ (mp17 h) ?_); focus rfl)
            | ((with_reducible refine e_p ?_ (mp18 h) ?_); focus rfl)
            | ((with_reducible refine e_p ?_ (mp19 h) ?_); focus rfl)
            | ((with_reducible refine e_p ?_ (mp20 h) ?_); focus rfl)
            | ((with_reducible refine e_p ?_ (mp21 h) ?_); focus rfl)
            | ((with_reducible refine e_ip ?_ ?_); focus (simp (disch := omega) only [b_all, sV_all, ↓reduceIte, Nat.reduceEqDiff, Nat.reduceLT, Nat.reduceLeDiff, Nat.reduceAdd, Nat.reduceMul, Nat.reduceSub, i_lit, eq_self, and_true, true_and, and_self, not_true_eq_false, not_false_eq_true, or_true, true_or, or_false, false_or, false_and, and_false, reduceCtorEq, Nat.add_left_cancel_iff, Nat.add_zero, Nat.zero_add, md_all h]; done))
            | ((with_reducible refine e_in ?_ ?_); focus (simp (disch := omega) only [b_all, sV_all, ↓reduceIte, Nat.reduceEqDiff, Nat.reduceLT, Nat.reduceLeDiff, Nat.reduceAdd, Nat.reduceMul, Nat.reduceSub, i_lit, eq_self, and_true, true_and, and_self, not_true_eq_false, not_false_eq_true, or_true, true_or, or_false, false_or, false_and, and_false, reduceCtorEq, Nat.add_left_cancel_iff, Nat.add_zero, Nat.zero_add, md_all h]; done))
            | unfold fX5_allSaid_40
            | fail)
          first | with_reducible rfl | simp (disch := omega) only [b_all, sV_all, ↓reduceIte, Nat.reduceEqDiff, Nat.reduceLT, Nat.reduceLeDiff, Nat.reduceAdd, Nat.reduceMul, Nat.reduceSub, i_lit, eq_self, and_true, true_and, and_self, not_true_eq_false, not_false_eq_true, or_true, true_or, or_false, false_or, false_and, and_false, reduceCtorEq, Nat.add_left_cancel_iff, Nat.add_zero, Nat.zero_add, md_all h]
        · rw [al_t (show saidO W t j from fun _ => c2)]
          repeat (first
            | (with_reducible refine e_l1 ?_)
            | ((with_reducible refine e_k ?_ (mkM h) ?_); focus rfl)
            | ((with_reducible refine e_p ?_ (mp1 h) ?_); focus rfl)
            | ((with_reducible refine e_p ?_ (mp2 h) ?_); focus rfl)
            | ((with_reducible refine e_p ?_ (mp3 h) ?_); focus rfl)
            | ((with_reducible refine e_p ?_ (mp4 h) ?_); focus rfl)
            | ((with_reducible refine e_p ?_ (mp5 h) ?_); focus rfl)
            | ((with_reducible refine e_p ?_ (mp6 h) ?_); focus rfl)
            | ((with_reducible refine e_p ?_ (mp7 h) ?_); focus rfl)
            | ((with_reducible refine e_p ?_ (mp8 h) ?_); focus rfl)
            | ((with_reducible refine e_p ?_ (mp9 h) ?_); focus rfl)
            | ((with_reducible refine e_p ?_ (mp10 h) ?_); focus rfl)
            | ((with_reducible refine e_p ?_ (mp11 h) ?_); focus rfl)
            | ((with_reducible refine e_p ?_ (mp12 h) ?_); focus rfl)
            | ((with_reducible refine e_p ?_ (mp13 h) ?_); focus rfl)
            | ((with_reducible refine e_p ?_ (mp14 h) ?_); focus rfl)
            | ((with_reducible refine e_p ?_ (mp15 h) ?_); focus rfl)
            | ((with_reducible refine e_p ?_ (mp16 h) ?_); focus rfl)
            | ((with_reducible refine e_p ?_ (mp17 h) ?_); focus rfl)
            | ((with_reducible refine e_p ?_ (mp18 h) ?_); focus rfl)
            | ((with_reducible refine e_p ?_ (mp19 h) ?_); focus rfl)
            | ((with_reducible refine e_p ?_ (mp20 h) ?_); focus rfl)
            | ((with_reducible refine e_p ?_ (mp21 h) ?_); focus rfl)
            | ((with_reducible refine e_ip ?_ ?_); focus (simp (disch := omega) only [b_all, sV_all, ↓reduceIte, Nat.reduceEqDiff, Nat.reduceLT, Nat.reduceLeDiff, Nat.reduceAdd, Nat.reduceMul, Nat.reduceSub, i_lit, eq_self, and_true, true_and, and_self, not_true_eq_false, not_false_eq_true, or_true, true_or, or_false, false_or, false_and, and_false, reduceCtorEq, Nat.add_left_cancel_iff, Nat.add_zero, Nat.zero_add, md_all h]; done))
            | ((with_reducible refine e_in ?_ ?_); focus (simp (disch := omega) only [b_all, sV_all, ↓reduceIte, Nat.reduceEqDiff, Nat.reduceLT, Nat.reduceLeDiff, Nat.reduceAdd, Nat.reduceMul, Nat.reduceSub, i_lit, eq_self, and_true, true_and, and_self, not_true_eq_false, not_false_eq_true, or_true, true_or, or_false, false_or, false_and, and_false, reduceCtorEq, Nat.add_left_cancel_iff, Nat.add_zero, Nat.zero_add, md_all h]; done))
            | unfold fX5_allSaid_40
            | fail)
          first | with_reducible rfl | simp (disch := omega) only [b_all, sV_all, ↓reduceIte, Nat.reduceEqDiff, Nat.reduceLT, Nat.reduceLeDiff, Nat.reduceAdd, Nat.reduceMul, Nat.reduceSub, i_lit, eq_self, and_true, true_and, and_self, not_true_eq_false, not_false_eq_true, or_true, true_or, or_false, false_or, false_and, and_false, reduceCtorEq, Nat.add_left_cancel_iff, Nat.add_zero, Nat.zero_add, md_all h]
theorem s_allSaid (hk : 5000 ≤ k) (h : St x B C W M) (hb : Bd W) {t : Nat} (ht : t < 200) : fX5_allSaid x k (B + 25) (i32 t) M = some (i32 (bp (allSaid W t)), M) := by
  have h0 := hb.1
  have e := s_allSaid4 (k := k) h hb ht k 0 (by omega) (by omega)
  rw [al_0, bp_t trivial] at e
  exact e
theorem s_take4 (W : Ab) {i : Nat} (hi : i < W 0 23) (hl : W 0 23 ≤ 300) : ∀ (n m : Nat) (M : Mm), St x B C (tkF W i m) M → m ≤ 4 * (W 0 23 - 1 - i) → 4 * (W 0 23 - 1 - i) < n + m → ∃ M', fX5_takesOut_4 x k n (B + 25) (i32 (4 * i + m)) M = some ((), M') ∧ St x B C (wTake W i) M' := by
  intro n
  induction n with
  | zero => intro j M _ h1 h2; omega
  | succ n ih =>
    intro m M h hm hn
    have e23 : tkF W i m 0 23 = W 0 23 := tkF_r _ _ (by omega) _ _
    by_cases hc : 4 * (W 0 23 - 1 - i) ≤ m
    · obtain rfl : m = 4 * (W 0 23 - 1 - i) := by omega
      refine ⟨_, ?_, show St x B C (wTake W i) _ from su0 h 23 (W 0 23 - 1)⟩
      have es : i32 (W 0 23) - i32 1 = i32 (W 0 23 - 1) := i_sub (by omega)
      rw [fX5_takesOut_4]
      repeat (first
        | (with_reducible refine e_l1 ?_)
        | ((with_reducible refine e_k ?_ (mkM h) ?_); focus rfl)
        | ((with_reducible refine e_p ?_ (mp1 h) ?_); focus rfl)
        | ((with_reducible refine e_p ?_ (mp2 h) ?_); focus rfl)
        | ((with_reducible refine e_p ?_ (mp3 h) ?_); focus rfl)
        | ((with_reducible refine e_p ?_ (mp4 h) ?_); focus rfl)
        | ((with_reducible refine e_p ?_ (mp5 h) ?_); focus rfl)
        | ((with_reducible refine e_p ?_ (mp6 h) ?_); focus rfl)
        | ((with_reducible refine e_p ?_ (mp7 h) ?_); focus rfl)
        | ((with_reducible refine e_p ?_ (mp8 h) ?_); focus rfl)
        | ((with_reducible refine e_p ?_ (mp9 h) ?_); focus rfl)
        | ((with_reducible refine e_p ?_ (mp10 h) ?_); focus rfl)
        | ((with_reducible refine e_p ?_ (mp11 h) ?_); focus rfl)
        | ((with_reducible refine e_p ?_ (mp12 h) ?_); focus rfl)
        | ((with_reducible refine e_p ?_ (mp13 h) ?_); focus rfl)
        | ((with_reducible refine e_p ?_ (mp14 h) ?_); focus rfl)
        | ((with_reducible refine e_p ?_ (mp15 h) ?_); focus rfl)
        | ((with_reducible refine e_p ?_ (mp16 h) ?_); focus rfl)
        | ((with_reducible refine e_p ?_ (mp17 h) ?_); focus rfl)
        | ((with_reducible refine e_p ?_ (mp18 h) ?_); focus rfl)
        | ((with_reducible refine e_p ?_ (mp19 h) ?_); focus rfl)
        | ((with_reducible refine e_p ?_ (mp20 h) ?_); focus rfl)
        | ((with_reducible refine e_p ?_ (mp21 h) ?_); focus rfl)
        | ((with_reducible refine e_ip ?_ ?_); focus (simp (disch := omega) only [b_all, sV_all, ↓reduceIte, Nat.reduceEqDiff, Nat.reduceLT, Nat.reduceLeDiff, Nat.reduceAdd, Nat.reduceMul, Nat.reduceSub, i_lit, eq_self, and_true, true_and, and_self, not_true_eq_false, not_false_eq_true, or_true, true_or, or_false, false_or, false_and, and_false, reduceCtorEq, Nat.add_left_cancel_iff, Nat.add_zero, Nat.zero_add, md_all h, e23, es]; done))
        | ((with_reducible refine e_in ?_ ?_); focus (simp (disch := omega) only [b_all, sV_all, ↓reduceIte, Nat.reduceEqDiff, Nat.reduceLT, Nat.reduceLeDiff, Nat.reduceAdd, Nat.reduceMul, Nat.reduceSub, i_lit, eq_self, and_true, true_and, and_self, not_true_eq_false, not_false_eq_true, or_true, true_or, or_false, false_or, false_and, and_false, reduceCtorEq, Nat.add_left_cancel_iff, Nat.add_zero, Nat.zero_add, md_all h, e23, es]; done))
        | fail)
      first | with_reducible rfl | simp (disch := omega) only [b_all, sV_all, ↓reduceIte, Nat.reduceEqDiff, Nat.reduceLT, Nat.reduceLeDiff, Nat.reduceAdd, Nat.reduceMul, Nat.reduceSub, i_lit, eq_self, and_true, true_and, and_self, not_true_eq_false, not_false_eq_true, or_true, true_or, or_false, false_or, false_and, and_false, reduceCtorEq, Nat.add_left_cancel_iff, Nat.add_zero, Nat.zero_add, md_all h, e23, es]
    · have e20 : tkF W i m 20 (4 * i + m + 4) = W 20 (4 * i + m + 4) := tkF_hi _ _ _ (by omega)
      obtain ⟨M', e, hM⟩ := ih (m + 1) _ (su20 h (4 * i + m) (W 20 (4 * i + m + 4))) (by omega) (by omega)
      refine ⟨M', ?_, hM⟩
      rw [show 4 * i + (m + 1) = 4 * i + m + 1 from rfl] at e
      rw [← e, fX5_takesOut_4]
      repeat (first
        | (with_reducible refine e_l1 ?_)
        | ((with_reducible refine e_k ?_ (mkM h) ?_); focus rfl)
        | ((with_reducible refine e_p ?_ (mp1 h) ?_); focus rfl)
        | ((with_reducible refine e_p ?_ (mp2 h) ?_); focus rfl)
        | ((with_reducible refine e_p ?_ (mp3 h) ?_); focus rfl)
        | ((with_reducible refine e_p ?_ (mp4 h) ?_); focus rfl)
        | ((with_reducible refine e_p ?_ (mp5 h) ?_); focus rfl)
        | ((with_reducible refine e_p ?_ (mp6 h) ?_); focus rfl)
        | ((with_reducible refine e_p ?_ (mp7 h) ?_); focus rfl)
        | ((with_reducible refine e_p ?_ (mp8 h) ?_); focus rfl)
        | ((with_reducible refine e_p ?_ (mp9 h) ?_); focus rfl)
        | ((with_reducible refine e_p ?_ (mp10 h) ?_); focus rfl)
        | ((with_reducible refine e_p ?_ (mp11 h) ?_); focus rfl)
        | ((with_reducible refine e_p ?_ (mp12 h) ?_); focus rfl)
        | ((with_reducible refine e_p ?_ (mp13 h) ?_); focus rfl)
        | ((with_reducible refine e_p ?_ (mp14 h) ?_); focus rfl)
        | ((with_reducible refine e_p ?_ (mp15 h) ?_); focus rfl)
        | ((with_reducible refine e_p ?_ (mp16 h) ?_); focus rfl)
        | ((with_reducible refine e_p ?_ (mp17 h) ?_); focus rfl)
        | ((with_reducible refine e_p ?_ (mp18 h) ?_); focus rfl)
        | ((with_reducible refine e_p ?_ (mp19 h) ?_); focus rfl)
        | ((with_reducible refine e_p ?_ (mp20 h) ?_); focus rfl)
        | ((with_reducible refine e_p ?_ (mp21 h) ?_); focus rfl)
        | ((with_reducible refine e_ip ?_ ?_); focus (simp (disch := omega) only [b_all, sV_all, ↓reduceIte, Nat.reduceEqDiff, Nat.reduceLT, Nat.reduceLeDiff, Nat.reduceAdd, Nat.reduceMul, Nat.reduceSub, i_lit, eq_self, and_true, true_and, and_self, not_true_eq_false, not_false_eq_true, or_true, true_or, or_false, false_or, false_and, and_false, reduceCtorEq, Nat.add_left_cancel_iff, Nat.add_zero, Nat.zero_add, md_all h, e23, e20]; done))
        | ((with_reducible refine e_in ?_ ?_); focus (simp (disch := omega) only [b_all, sV_all, ↓reduceIte, Nat.reduceEqDiff, Nat.reduceLT, Nat.reduceLeDiff, Nat.reduceAdd, Nat.reduceMul, Nat.reduceSub, i_lit, eq_self, and_true, true_and, and_self, not_true_eq_false, not_false_eq_true, or_true, true_or, or_false, false_or, false_and, and_false, reduceCtorEq, Nat.add_left_cancel_iff, Nat.add_zero, Nat.zero_add, md_all h, e23, e20]; done))
        | fail)
      first | with_reducible rfl | simp (disch := omega) only [b_all, sV_all, ↓reduceIte, Nat.reduceEqDiff, Nat.reduceLT, Nat.reduceLeDiff, Nat.reduceAdd, Nat.reduceMul, Nat.reduceSub, i_lit, eq_self, and_true, true_and, and_self, not_true_eq_false, not_false_eq_true, or_true, true_or, or_false, false_or, false_and, and_false, reduceCtorEq, Nat.add_left_cancel_iff, Nat.add_zero, Nat.zero_add, md_all h, e23, e20]
theorem s_take (hk : 5000 ≤ k) (h : St x B C W M) {i : Nat} (hi : i < W 0 23) (hl : W 0 23 ≤ 300) : ∃ M', fX5_takesOut x k (B + 25) (i32 i) M = some ((), M') ∧ St x B C (wTake W i) M' := by
  obtain ⟨M', e, hM⟩ := s_take4 (k := k) W hi hl k 0 M h (by omega) (by omega)
  refine ⟨M', ?_, hM⟩
  rw [← e]
  unfold fX5_takesOut
  simp (disch := omega) only [b_all, sV_all, ↓reduceIte, Nat.reduceEqDiff, Nat.reduceLT, Nat.reduceLeDiff, Nat.reduceAdd, Nat.reduceMul, Nat.reduceSub, i_lit, eq_self, and_true, true_and, and_self, not_true_eq_false, not_false_eq_true, or_true, true_or, or_false, false_or, false_and, and_false, reduceCtorEq, Nat.add_left_cancel_iff, Nat.add_zero, Nat.zero_add, md_all h]
theorem m_drop_iae (h : St x B C W M) (hb : Bd W) {i : Nat} (hi : i < 4294967296) (hn : ¬ i < W 0 23) : fX5_drop x k (B + 25) (i32 i) M = some (i32 0, sV M (B + 25) 27 (i32 1)) := by
  have h0 := hb.1
  have f0 := s_fails1 (k := k) h 1
  unfold fX5_drop
  by_cases c : 2147483648 ≤ i
  · have en := i_neg hi
    repeat (first
      | (with_reducible refine e_l1 ?_)
      | ((with_reducible refine e_k ?_ (mkM h) ?_); focus rfl)
      | ((with_reducible refine e_p ?_ (mp1 h) ?_); focus rfl)
      | ((with_reducible refine e_p ?_ (mp2 h) ?_); focus rfl)
      | ((with_reducible refine e_p ?_ (mp3 h) ?_); focus rfl)
      | ((with_reducible refine e_p ?_ (mp4 h) ?_); focus rfl)
      | ((with_reducible refine e_p ?_ (mp5 h) ?_); focus rfl)
      | ((with_reducible refine e_p ?_ (mp6 h) ?_); focus rfl)
      | ((with_reducible refine e_p ?_ (mp7 h) ?_); focus rfl)
      | ((with_reducible refine e_p ?_ (mp8 h) ?_); focus rfl)
      | ((with_reducible refine e_p ?_ (mp9 h) ?_); focus rfl)
      | ((with_reducible refine e_p ?_ (mp10 h) ?_); focus rfl)
      | ((with_reducible refine e_p ?_ (mp11 h) ?_); focus rfl)
      | ((with_reducible refine e_p ?_ (mp12 h) ?_); focus rfl)
      | ((with_reducible refine e_p ?_ (mp13 h) ?_); focus rfl)
      | ((with_reducible refine e_p ?_ (mp14 h) ?_); focus rfl)
      | ((with_reducible refine e_p ?_ (mp15 h) ?_); focus rfl)
      | ((with_reducible refine e_p ?_ (mp16 h) ?_); focus rfl)
      | ((with_reducible refine e_p ?_ (mp17 h) ?_); focus rfl)
      | ((with_reducible refine e_p ?_ (mp18 h) ?_); focus rfl)
      | ((with_reducible refine e_p ?_ (mp19 h) ?_); focus rfl)
      | ((with_reducible refine e_p ?_ (mp20 h) ?_); focus rfl)
      | ((with_reducible refine e_p ?_ (mp21 h) ?_); focus rfl)
      | ((with_reducible refine e_o2 ?_ f0 ?_); focus (first | with_reducible rfl | (simp (disch := omega) only [b_all, sV_all, ↓reduceIte, Nat.reduceEqDiff, Nat.reduceLT, Nat.reduceLeDiff, Nat.reduceAdd, Nat.reduceMul, Nat.reduceSub, i_lit, eq_self, and_true, true_and, and_self, not_true_eq_false, not_false_eq_true, or_true, true_or, or_false, false_or, false_and, and_false, reduceCtorEq, Nat.add_left_cancel_iff, Nat.add_zero, Nat.zero_add, md_all h, en]; done)))
      | ((with_reducible refine e_ip ?_ ?_); focus (simp (disch := omega) only [b_all, sV_all, ↓reduceIte, Nat.reduceEqDiff, Nat.reduceLT, Nat.reduceLeDiff, Nat.reduceAdd, Nat.reduceMul, Nat.reduceSub, i_lit, eq_self, and_true, true_and, and_self, not_true_eq_false, not_false_eq_true, or_true, true_or, or_false, false_or, false_and, and_false, reduceCtorEq, Nat.add_left_cancel_iff, Nat.add_zero, Nat.zero_add, md_all h, en]; done))
      | ((with_reducible refine e_in ?_ ?_); focus (simp (disch := omega) only [b_all, sV_all, ↓reduceIte, Nat.reduceEqDiff, Nat.reduceLT, Nat.reduceLeDiff, Nat.reduceAdd, Nat.reduceMul, Nat.reduceSub, i_lit, eq_self, and_true, true_and, and_self, not_true_eq_false, not_false_eq_true, or_true, true_or, or_false, false_or, false_and, and_false, reduceCtorEq, Nat.add_left_cancel_iff, Nat.add_zero, Nat.zero_add, md_all h, en]; done))
      | unfold fX5_drop_13
      | unfold fX5_drop_18
      | fail)
    first | with_reducible rfl | simp (disch := omega) only [b_all, sV_all, ↓reduceIte, Nat.reduceEqDiff, Nat.reduceLT, Nat.reduceLeDiff, Nat.reduceAdd, Nat.reduceMul, Nat.reduceSub, i_lit, eq_self, and_true, true_and, and_self, not_true_eq_false, not_false_eq_true, or_true, true_or, or_false, false_or, false_and, and_false, reduceCtorEq, Nat.add_left_cancel_iff, Nat.add_zero, Nat.zero_add, md_all h, en]
  · repeat (first
      | (with_reducible refine e_l1 ?_)
      | ((with_reducible refine e_k ?_ (mkM h) ?_); focus rfl)
      | ((with_reducible refine e_p ?_ (mp1 h) ?_); focus rfl)
      | ((with_reducible refine e_p ?_ (mp2 h) ?_); focus rfl)
      | ((with_reducible refine e_p ?_ (mp3 h) ?_); focus rfl)
      | ((with_reducible refine e_p ?_ (mp4 h) ?_); focus rfl)
      | ((with_reducible refine e_p ?_ (mp5 h) ?_); focus rfl)
      | ((with_reducible refine e_p ?_ (mp6 h) ?_); focus rfl)
      | ((with_reducible refine e_p ?_ (mp7 h) ?_); focus rfl)
      | ((with_reducible refine e_p ?_ (mp8 h) ?_); focus rfl)
      | ((with_reducible refine e_p ?_ (mp9 h) ?_); focus rfl)
      | ((with_reducible refine e_p ?_ (mp10 h) ?_); focus rfl)
      | ((with_reducible refine e_p ?_ (mp11 h) ?_); focus rfl)
      | ((with_reducible refine e_p ?_ (mp12 h) ?_); focus rfl)
      | ((with_reducible refine e_p ?_ (mp13 h) ?_); focus rfl)
      | ((with_reducible refine e_p ?_ (mp14 h) ?_); focus rfl)
      | ((with_reducible refine e_p ?_ (mp15 h) ?_); focus rfl)
      | ((with_reducible refine e_p ?_ (mp16 h) ?_); focus rfl)
      | ((with_reducible refine e_p ?_ (mp17 h) ?_); focus rfl)
      | ((with_reducible refine e_p ?_ (mp18 h) ?_); focus rfl)
      | ((with_reducible refine e_p ?_ (mp19 h) ?_); focus rfl)
      | ((with_reducible refine e_p ?_ (mp20 h) ?_); focus rfl)
      | ((with_reducible refine e_p ?_ (mp21 h) ?_); focus rfl)
      | ((with_reducible refine e_o2 ?_ f0 ?_); focus (first | with_reducible rfl | (simp (disch := omega) only [b_all, sV_all, ↓reduceIte, Nat.reduceEqDiff, Nat.reduceLT, Nat.reduceLeDiff, Nat.reduceAdd, Nat.reduceMul, Nat.reduceSub, i_lit, eq_self, and_true, true_and, and_self, not_true_eq_false, not_false_eq_true, or_true, true_or, or_false, false_or, false_and, and_false, reduceCtorEq, Nat.add_left_cancel_iff, Nat.add_zero, Nat.zero_add, md_all h]; done)))
      | ((with_reducible refine e_ip ?_ ?_); focus (simp (disch := omega) only [b_all, sV_all, ↓reduceIte, Nat.reduceEqDiff, Nat.reduceLT, Nat.reduceLeDiff, Nat.reduceAdd, Nat.reduceMul, Nat.reduceSub, i_lit, eq_self, and_true, true_and, and_self, not_true_eq_false, not_false_eq_true, or_true, true_or, or_false, false_or, false_and, and_false, reduceCtorEq, Nat.add_left_cancel_iff, Nat.add_zero, Nat.zero_add, md_all h]; done))
      | ((with_reducible refine e_in ?_ ?_); focus (simp (disch := omega) only [b_all, sV_all, ↓reduceIte, Nat.reduceEqDiff, Nat.reduceLT, Nat.reduceLeDiff, Nat.reduceAdd, Nat.reduceMul, Nat.reduceSub, i_lit, eq_self, and_true, true_and, and_self, not_true_eq_false, not_false_eq_true, or_true, true_or, or_false, false_or, false_and, and_false, reduceCtorEq, Nat.add_left_cancel_iff, Nat.add_zero, Nat.zero_add, md_all h]; done))
      | unfold fX5_drop_13
      | unfold fX5_drop_18
      | fail)
    first | with_reducible rfl | simp (disch := omega) only [b_all, sV_all, ↓reduceIte, Nat.reduceEqDiff, Nat.reduceLT, Nat.reduceLeDiff, Nat.reduceAdd, Nat.reduceMul, Nat.reduceSub, i_lit, eq_self, and_true, true_and, and_self, not_true_eq_false, not_false_eq_true, or_true, true_or, or_false, false_or, false_and, and_false, reduceCtorEq, Nat.add_left_cancel_iff, Nat.add_zero, Nat.zero_add, md_all h]
theorem m_drop_ok (hk : 5000 ≤ k) (h : St x B C W M) (hb : Bd W) {i : Nat} (hi : i < W 0 23) : ∃ M', fX5_drop x k (B + 25) (i32 i) M = some (i32 (W 20 (4 * i)), M') ∧ St x B C (wTake (t0 W) i) M' := by
  have h0 := hb.1
  have f0 := s_fails0 (k := k) h 1
  obtain ⟨M', e, h1⟩ := s_take (k := k) hk (show St x B C (t0 W) _ from su0 h 27 0) (i := i) hi h0.2.2.2.1
  refine ⟨M', ?_, h1⟩
  unfold fX5_drop
  repeat (first
    | (with_reducible refine e_l1 ?_)
    | ((with_reducible refine e_k ?_ (mkM h) ?_); focus rfl)
    | ((with_reducible refine e_p ?_ (mp1 h) ?_); focus rfl)
    | ((with_reducible refine e_p ?_ (mp2 h) ?_); focus rfl)
    | ((with_reducible refine e_p ?_ (mp3 h) ?_); focus rfl)
    | ((with_reducible refine e_p ?_ (mp4 h) ?_); focus rfl)
    | ((with_reducible refine e_p ?_ (mp5 h) ?_); focus rfl)
    | ((with_reducible refine e_p ?_ (mp6 h) ?_); focus rfl)
    | ((with_reducible refine e_p ?_ (mp7 h) ?_); focus rfl)
    | ((with_reducible refine e_p ?_ (mp8 h) ?_); focus rfl)
    | ((with_reducible refine e_p ?_ (mp9 h) ?_); focus rfl)
    | ((with_reducible refine e_p ?_ (mp10 h) ?_); focus rfl)
    | ((with_reducible refine e_p ?_ (mp11 h) ?_); focus rfl)
    | ((with_reducible refine e_p ?_ (mp12 h) ?_); focus rfl)
    | ((with_reducible refine e_p ?_ (mp13 h) ?_); focus rfl)
    | ((with_reducible refine e_p ?_ (mp14 h) ?_); focus rfl)
    | ((with_reducible refine e_p ?_ (mp15 h) ?_); focus rfl)
    | ((with_reducible refine e_p ?_ (mp16 h) ?_); focus rfl)
    | ((with_reducible refine e_p ?_ (mp17 h) ?_); focus rfl)
    | ((with_reducible refine e_p ?_ (mp18 h) ?_); focus rfl)
    | ((with_reducible refine e_p ?_ (mp19 h) ?_); focus rfl)
    | ((with_reducible refine e_p ?_ (mp20 h) ?_); focus rfl)
    | ((with_reducible refine e_p ?_ (mp21 h) ?_); focus rfl)
    | ((with_reducible refine e_o2 ?_ f0 ?_); focus (first | with_reducible rfl | (simp (disch := omega) only [b_all, sV_all, ↓reduceIte, Nat.reduceEqDiff, Nat.reduceLT, Nat.reduceLeDiff, Nat.reduceAdd, Nat.reduceMul, Nat.reduceSub, i_lit, eq_self, and_true, true_and, and_self, not_true_eq_false, not_false_eq_true, or_true, true_or, or_false, false_or, false_and, and_false, reduceCtorEq, Nat.add_left_cancel_iff, Nat.add_zero, Nat.zero_add, md_all h]; done)))
    | ((with_reducible refine e_o2 ?_ e ?_); focus (first | with_reducible rfl | (simp (disch := omega) only [b_all, sV_all, ↓reduceIte, Nat.reduceEqDiff, Nat.reduceLT, Nat.reduceLeDiff, Nat.reduceAdd, Nat.reduceMul, Nat.reduceSub, i_lit, eq_self, and_true, true_and, and_self, not_true_eq_false, not_false_eq_true, or_true, true_or, or_false, false_or, false_and, and_false, reduceCtorEq, Nat.add_left_cancel_iff, Nat.add_zero, Nat.zero_add, md_all h]; done)))
    | ((with_reducible refine e_ip ?_ ?_); focus (simp (disch := omega) only [b_all, sV_all, ↓reduceIte, Nat.reduceEqDiff, Nat.reduceLT, Nat.reduceLeDiff, Nat.reduceAdd, Nat.reduceMul, Nat.reduceSub, i_lit, eq_self, and_true, true_and, and_self, not_true_eq_false, not_false_eq_true, or_true, true_or, or_false, false_or, false_and, and_false, reduceCtorEq, Nat.add_left_cancel_iff, Nat.add_zero, Nat.zero_add, md_all h]; done))
    | ((with_reducible refine e_in ?_ ?_); focus (simp (disch := omega) only [b_all, sV_all, ↓reduceIte, Nat.reduceEqDiff, Nat.reduceLT, Nat.reduceLeDiff, Nat.reduceAdd, Nat.reduceMul, Nat.reduceSub, i_lit, eq_self, and_true, true_and, and_self, not_true_eq_false, not_false_eq_true, or_true, true_or, or_false, false_or, false_and, and_false, reduceCtorEq, Nat.add_left_cancel_iff, Nat.add_zero, Nat.zero_add, md_all h]; done))
    | unfold fX5_drop_18
    | fail)
  first | with_reducible rfl | simp (disch := omega) only [b_all, sV_all, ↓reduceIte, Nat.reduceEqDiff, Nat.reduceLT, Nat.reduceLeDiff, Nat.reduceAdd, Nat.reduceMul, Nat.reduceSub, i_lit, eq_self, and_true, true_and, and_self, not_true_eq_false, not_false_eq_true, or_true, true_or, or_false, false_or, false_and, and_false, reduceCtorEq, Nat.add_left_cancel_iff, Nat.add_zero, Nat.zero_add, md_all h]
/-- copy -/
def cpF (W : Ab) (i : Nat) : Nat → Ab
  | 0 => W
  | m + 1 => U (cpF W i m) 20 (4 * W 0 23 + m) (W 20 (4 * i + m))
def wCopy (W : Ab) (i : Nat) : Ab := U (cpF W i 4) 0 23 (W 0 23 + 1)
theorem cpF_r (W : Ab) (i0 : Nat) {i : Nat} (hi : i ≠ 20) (j : Nat) : ∀ m, cpF W i0 m i j = W i j
  | 0 => rfl
  | m + 1 => by unfold cpF; rw [U_r _ hi]; exact cpF_r W i0 hi j m
theorem cpF_lo (W : Ab) (i : Nat) {j : Nat} (hj : j < 4 * W 0 23) : ∀ m, cpF W i m 20 j = W 20 j
  | 0 => rfl
  | m + 1 => by unfold cpF; rw [U_k _ _ _ (by omega)]; exact cpF_lo W i hj m
theorem s_copy41 (W : Ab) {i : Nat} (hi : i < W 0 23) (hl : W 0 23 < 300) : ∀ (n m : Nat) (M : Mm), St x B C (cpF W i m) M → m ≤ 4 → 4 < n + m → ∃ M', fX5_copy_41 x k n (B + 25) (i32 i) (i32 m) M = some (i32 1, M') ∧ St x B C (wCopy W i) M' := by
  intro n
  induction n with
  | zero => intro j M _ h1 h2; omega
  | succ n ih =>
    intro m M h hm hn
    have e23 : cpF W i m 0 23 = W 0 23 := cpF_r _ _ (by omega) _ _
    by_cases hc : 4 ≤ m
    · obtain rfl : m = 4 := by omega
      refine ⟨_, ?_, show St x B C (wCopy W i) _ from su0 h 23 (W 0 23 + 1)⟩
      rw [fX5_copy_41]
      repeat (first
        | (with_reducible refine e_l1 ?_)
        | ((with_reducible refine e_k ?_ (mkM h) ?_); focus rfl)
        | ((with_reducible refine e_p ?_ (mp1 h) ?_); focus rfl)
        | ((with_reducible refine e_p ?_ (mp2 h) ?_); focus rfl)
        | ((with_reducible refine e_p ?_ (mp3 h) ?_); focus rfl)
        | ((with_reducible refine e_p ?_ (mp4 h) ?_); focus rfl)
        | ((with_reducible refine e_p ?_ (mp5 h) ?_); focus rfl)
        | ((with_reducible refine e_p ?_ (mp6 h) ?_); focus rfl)
        | ((with_reducible refine e_p ?_ (mp7 h) ?_); focus rfl)
        | ((with_reducible refine e_p ?_ (mp8 h) ?_); focus rfl)
        | ((with_reducible refine e_p ?_ (mp9 h) ?_); focus rfl)
        | ((with_reducible refine e_p ?_ (mp10 h) ?_); focus rfl)
        | ((with_reducible refine e_p ?_ (mp11 h) ?_); focus rfl)
        | ((with_reducible refine e_p ?_ (mp12 h) ?_); focus rfl)
        | ((with_reducible refine e_p ?_ (mp13 h) ?_); focus rfl)
        | ((with_reducible refine e_p ?_ (mp14 h) ?_); focus rfl)
        | ((with_reducible refine e_p ?_ (mp15 h) ?_); focus rfl)
        | ((with_reducible refine e_p ?_ (mp16 h) ?_); focus rfl)
        | ((with_reducible refine e_p ?_ (mp17 h) ?_); focus rfl)
        | ((with_reducible refine e_p ?_ (mp18 h) ?_); focus rfl)
        | ((with_reducible refine e_p ?_ (mp19 h) ?_); focus rfl)
        | ((with_reducible refine e_p ?_ (mp20 h) ?_); focus rfl)
        | ((with_reducible refine e_p ?_ (mp21 h) ?_); focus rfl)
        | ((with_reducible refine e_ip ?_ ?_); focus (simp (disch := omega) only [b_all, sV_all, ↓reduceIte, Nat.reduceEqDiff, Nat.reduceLT, Nat.reduceLeDiff, Nat.reduceAdd, Nat.reduceMul, Nat.reduceSub, i_lit, eq_self, and_true, true_and, and_self, not_true_eq_false, not_false_eq_true, or_true, true_or, or_false, false_or, false_and, and_false, reduceCtorEq, Nat.add_left_cancel_iff, Nat.add_zero, Nat.zero_add, md_all h, e23]; done))
        | ((with_reducible refine e_in ?_ ?_); focus (simp (disch := omega) only [b_all, sV_all, ↓reduceIte, Nat.reduceEqDiff, Nat.reduceLT, Nat.reduceLeDiff, Nat.reduceAdd, Nat.reduceMul, Nat.reduceSub, i_lit, eq_self, and_true, true_and, and_self, not_true_eq_false, not_false_eq_true, or_true, true_or, or_false, false_or, false_and, and_false, reduceCtorEq, Nat.add_left_cancel_iff, Nat.add_zero, Nat.zero_add, md_all h, e23]; done))
        | fail)
      first | with_reducible rfl | simp (disch := omega) only [b_all, sV_all, ↓reduceIte, Nat.reduceEqDiff, Nat.reduceLT, Nat.reduceLeDiff, Nat.reduceAdd, Nat.reduceMul, Nat.reduceSub, i_lit, eq_self, and_true, true_and, and_self, not_true_eq_false, not_false_eq_true, or_true, true_or, or_false, false_or, false_and, and_false, reduceCtorEq, Nat.add_left_cancel_iff, Nat.add_zero, Nat.zero_add, md_all h, e23]
    · have e20 : cpF W i m 20 (4 * i + m) = W 20 (4 * i + m) := cpF_lo _ _ (by omega) _
      obtain ⟨M', e, hM⟩ := ih (m + 1) _ (su20 h (4 * W 0 23 + m) (W 20 (4 * i + m))) (by omega) (by omega)
      refine ⟨M', ?_, hM⟩
      rw [← e, fX5_copy_41]
      repeat (first
        | (with_reducible refine e_l1 ?_)
        | ((with_reducible refine e_k ?_ (mkM h) ?_); focus rfl)
        | ((with_reducible refine e_p ?_ (mp1 h) ?_); focus rfl)
        | ((with_reducible refine e_p ?_ (mp2 h) ?_); focus rfl)
        | ((with_reducible refine e_p ?_ (mp3 h) ?_); focus rfl)
        | ((with_reducible refine e_p ?_ (mp4 h) ?_); focus rfl)
        | ((with_reducible refine e_p ?_ (mp5 h) ?_); focus rfl)
        | ((with_reducible refine e_p ?_ (mp6 h) ?_); focus rfl)
        | ((with_reducible refine e_p ?_ (mp7 h) ?_); focus rfl)
        | ((with_reducible refine e_p ?_ (mp8 h) ?_); focus rfl)
        | ((with_reducible refine e_p ?_ (mp9 h) ?_); focus rfl)
        | ((with_reducible refine e_p ?_ (mp10 h) ?_); focus rfl)
        | ((with_reducible refine e_p ?_ (mp11 h) ?_); focus rfl)
        | ((with_reducible refine e_p ?_ (mp12 h) ?_); focus rfl)
        | ((with_reducible refine e_p ?_ (mp13 h) ?_); focus rfl)
        | ((with_reducible refine e_p ?_ (mp14 h) ?_); focus rfl)
        | ((with_reducible refine e_p ?_ (mp15 h) ?_); focus rfl)
        | ((with_reducible refine e_p ?_ (mp16 h) ?_); focus rfl)
        | ((with_reducible refine e_p ?_ (mp17 h) ?_); focus rfl)
        | ((with_reducible refine e_p ?_ (mp18 h) ?_); focus rfl)
        | ((with_reducible refine e_p ?_ (mp19 h) ?_); focus rfl)
        | ((with_reducible refine e_p ?_ (mp20 h) ?_); focus rfl)
        | ((with_reducible refine e_p ?_ (mp21 h) ?_); focus rfl)
        | ((with_reducible refine e_ip ?_ ?_); focus (simp (disch := omega) only [b_all, sV_all, ↓reduceIte, Nat.reduceEqDiff, Nat.reduceLT, Nat.reduceLeDiff, Nat.reduceAdd, Nat.reduceMul, Nat.reduceSub, i_lit, eq_self, and_true, true_and, and_self, not_true_eq_false, not_false_eq_true, or_true, true_or, or_false, false_or, false_and, and_false, reduceCtorEq, Nat.add_left_cancel_iff, Nat.add_zero, Nat.zero_add, md_all h, e23, e20]; done))
        | ((with_reducible refine e_in ?_ ?_); focus (simp (disch := omega) only [b_all, sV_all, ↓reduceIte, Nat.reduceEqDiff, Nat.reduceLT, Nat.reduceLeDiff, Nat.reduceAdd, Nat.reduceMul, Nat.reduceSub, i_lit, eq_self, and_true, true_and, and_self, not_true_eq_false, not_false_eq_true, or_true, true_or, or_false, false_or, false_and, and_false, reduceCtorEq, Nat.add_left_cancel_iff, Nat.add_zero, Nat.zero_add, md_all h, e23, e20]; done))
        | fail)
      first | with_reducible rfl | simp (disch := omega) only [b_all, sV_all, ↓reduceIte, Nat.reduceEqDiff, Nat.reduceLT, Nat.reduceLeDiff, Nat.reduceAdd, Nat.reduceMul, Nat.reduceSub, i_lit, eq_self, and_true, true_and, and_self, not_true_eq_false, not_false_eq_true, or_true, true_or, or_false, false_or, false_and, and_false, reduceCtorEq, Nat.add_left_cancel_iff, Nat.add_zero, Nat.zero_add, md_all h, e23, e20]
theorem m_copy_iae (h : St x B C W M) (hb : Bd W) {i : Nat} (hi : i < 4294967296) (hn : ¬ i < W 0 23) : fX5_copy x k (B + 25) (i32 i) M = some (i32 0, sV M (B + 25) 27 (i32 1)) := by
  have h0 := hb.1
  have f0 := s_fails1 (k := k) h 1
  unfold fX5_copy
  by_cases c : 2147483648 ≤ i
  · have en := i_neg hi
    repeat (first
      | (with_reducible refine e_l1 ?_)
      | ((with_reducible refine e_k ?_ (mkM h) ?_); focus rfl)
      | ((with_reducible refine e_p ?_ (mp1 h) ?_); focus rfl)
      | ((with_reducible refine e_p ?_ (mp2 h) ?_); focus rfl)
      | ((with_reducible refine e_p ?_ (mp3 h) ?_); focus rfl)
      | ((with_reducible refine e_p ?_ (mp4 h) ?_); focus rfl)
      | ((with_reducible refine e_p ?_ (mp5 h) ?_); focus rfl)
      | ((with_reducible refine e_p ?_ (mp6 h) ?_); focus rfl)
      | ((with_reducible refine e_p ?_ (mp7 h) ?_); focus rfl)
      | ((with_reducible refine e_p ?_ (mp8 h) ?_); focus rfl)
      | ((with_reducible refine e_p ?_ (mp9 h) ?_); focus rfl)
      | ((with_reducible refine e_p ?_ (mp10 h) ?_); focus rfl)
      | ((with_reducible refine e_p ?_ (mp11 h) ?_); focus rfl)
      | ((with_reducible refine e_p ?_ (mp12 h) ?_); focus rfl)
      | ((with_reducible refine e_p ?_ (mp13 h) ?_); focus rfl)
      | ((with_reducible refine e_p ?_ (mp14 h) ?_); focus rfl)
      | ((with_reducible refine e_p ?_ (mp15 h) ?_); focus rfl)
      | ((with_reducible refine e_p ?_ (mp16 h) ?_); focus rfl)
      | ((with_reducible refine e_p ?_ (mp17 h) ?_); focus rfl)
      | ((with_reducible refine e_p ?_ (mp18 h) ?_); focus rfl)
      | ((with_reducible refine e_p ?_ (mp19 h) ?_); focus rfl)
      | ((with_reducible refine e_p ?_ (mp20 h) ?_); focus rfl)
      | ((with_reducible refine e_p ?_ (mp21 h) ?_); focus rfl)
      | ((with_reducible refine e_o2 ?_ f0 ?_); focus (first | with_reducible rfl | (simp (disch := omega) only [b_all, sV_all, ↓reduceIte, Nat.reduceEqDiff, Nat.reduceLT, Nat.reduceLeDiff, Nat.reduceAdd, Nat.reduceMul, Nat.reduceSub, i_lit, eq_self, and_true, true_and, and_self, not_true_eq_false, not_false_eq_true, or_true, true_or, or_false, false_or, false_and, and_false, reduceCtorEq, Nat.add_left_cancel_iff, Nat.add_zero, Nat.zero_add, md_all h, en]; done)))
      | ((with_reducible refine e_ip ?_ ?_); focus (simp (disch := omega) only [b_all, sV_all, ↓reduceIte, Nat.reduceEqDiff, Nat.reduceLT, Nat.reduceLeDiff, Nat.reduceAdd, Nat.reduceMul, Nat.reduceSub, i_lit, eq_self, and_true, true_and, and_self, not_true_eq_false, not_false_eq_true, or_true, true_or, or_false, false_or, false_and, and_false, reduceCtorEq, Nat.add_left_cancel_iff, Nat.add_zero, Nat.zero_add, md_all h, en]; done))
      | ((with_reducible refine e_in ?_ ?_); focus (simp (disch := omega) only [b_all, sV_all, ↓reduceIte, Nat.reduceEqDiff, Nat.reduceLT, Nat.reduceLeDiff, Nat.reduceAdd, Nat.reduceMul, Nat.reduceSub, i_lit, eq_self, and_true, true_and, and_self, not_true_eq_false, not_false_eq_true, or_true, true_or, or_false, false_or, false_and, and_false, reduceCtorEq, Nat.add_left_cancel_iff, Nat.add_zero, Nat.zero_add, md_all h, en]; done))
      | unfold fX5_copy_13
      | unfold fX5_copy_18
      | fail)
    first | with_reducible rfl | simp (disch := omega) only [b_all, sV_all, ↓reduceIte, Nat.reduceEqDiff, Nat.reduceLT, Nat.reduceLeDiff, Nat.reduceAdd, Nat.reduceMul, Nat.reduceSub, i_lit, eq_self, and_true, true_and, and_self, not_true_eq_false, not_false_eq_true, or_true, true_or, or_false, false_or, false_and, and_false, reduceCtorEq, Nat.add_left_cancel_iff, Nat.add_zero, Nat.zero_add, md_all h, en]
  · repeat (first
      | (with_reducible refine e_l1 ?_)
      | ((with_reducible refine e_k ?_ (mkM h) ?_); focus rfl)
      | ((with_reducible refine e_p ?_ (mp1 h) ?_); focus rfl)
      | ((with_reducible refine e_p ?_ (mp2 h) ?_); focus rfl)
      | ((with_reducible refine e_p ?_ (mp3 h) ?_); focus rfl)
      | ((with_reducible refine e_p ?_ (mp4 h) ?_); focus rfl)
      | ((with_reducible refine e_p ?_ (mp5 h) ?_); focus rfl)
      | ((with_reducible refine e_p ?_ (mp6 h) ?_); focus rfl)
      | ((with_reducible refine e_p ?_ (mp7 h) ?_); focus rfl)
      | ((with_reducible refine e_p ?_ (mp8 h) ?_); focus rfl)
      | ((with_reducible refine e_p ?_ (mp9 h) ?_); focus rfl)
      | ((with_reducible refine e_p ?_ (mp10 h) ?_); focus rfl)
      | ((with_reducible refine e_p ?_ (mp11 h) ?_); focus rfl)
      | ((with_reducible refine e_p ?_ (mp12 h) ?_); focus rfl)
      | ((with_reducible refine e_p ?_ (mp13 h) ?_); focus rfl)
      | ((with_reducible refine e_p ?_ (mp14 h) ?_); focus rfl)
      | ((with_reducible refine e_p ?_ (mp15 h) ?_); focus rfl)
      | ((with_reducible refine e_p ?_ (mp16 h) ?_); focus rfl)
      | ((with_reducible refine e_p ?_ (mp17 h) ?_); focus rfl)
      | ((with_reducible refine e_p ?_ (mp18 h) ?_); focus rfl)
      | ((with_reducible refine e_p ?_ (mp19 h) ?_); focus rfl)
      | ((with_reducible refine e_p ?_ (mp20 h) ?_); focus rfl)
      | ((with_reducible refine e_p ?_ (mp21 h) ?_); focus rfl)
      | ((with_reducible refine e_o2 ?_ f0 ?_); focus (first | with_reducible rfl | (simp (disch := omega) only [b_all, sV_all, ↓reduceIte, Nat.reduceEqDiff, Nat.reduceLT, Nat.reduceLeDiff, Nat.reduceAdd, Nat.reduceMul, Nat.reduceSub, i_lit, eq_self, and_true, true_and, and_self, not_true_eq_false, not_false_eq_true, or_true, true_or, or_false, false_or, false_and, and_false, reduceCtorEq, Nat.add_left_cancel_iff, Nat.add_zero, Nat.zero_add, md_all h]; done)))
      | ((with_reducible refine e_ip ?_ ?_); focus (simp (disch := omega) only [b_all, sV_all, ↓reduceIte, Nat.reduceEqDiff, Nat.reduceLT, Nat.reduceLeDiff, Nat.reduceAdd, Nat.reduceMul, Nat.reduceSub, i_lit, eq_self, and_true, true_and, and_self, not_true_eq_false, not_false_eq_true, or_true, true_or, or_false, false_or, false_and, and_false, reduceCtorEq, Nat.add_left_cancel_iff, Nat.add_zero, Nat.zero_add, md_all h]; done))
      | ((with_reducible refine e_in ?_ ?_); focus (simp (disch := omega) only [b_all, sV_all, ↓reduceIte, Nat.reduceEqDiff, Nat.reduceLT, Nat.reduceLeDiff, Nat.reduceAdd, Nat.reduceMul, Nat.reduceSub, i_lit, eq_self, and_true, true_and, and_self, not_true_eq_false, not_false_eq_true, or_true, true_or, or_false, false_or, false_and, and_false, reduceCtorEq, Nat.add_left_cancel_iff, Nat.add_zero, Nat.zero_add, md_all h]; done))
      | unfold fX5_copy_13
      | unfold fX5_copy_18
      | fail)
    first | with_reducible rfl | simp (disch := omega) only [b_all, sV_all, ↓reduceIte, Nat.reduceEqDiff, Nat.reduceLT, Nat.reduceLeDiff, Nat.reduceAdd, Nat.reduceMul, Nat.reduceSub, i_lit, eq_self, and_true, true_and, and_self, not_true_eq_false, not_false_eq_true, or_true, true_or, or_false, false_or, false_and, and_false, reduceCtorEq, Nat.add_left_cancel_iff, Nat.add_zero, Nat.zero_add, md_all h]
theorem m_copy_full (h : St x B C W M) (hb : Bd W) {i : Nat} (hi : i < W 0 23) (hl : W 0 23 = 300) : ∃ M', fX5_copy x k (B + 25) (i32 i) M = some (i32 0, M') ∧ St x B C (t0 W) M' := by
  have h0 := hb.1
  have f0 := s_fails0 (k := k) h 1
  refine ⟨_, ?_, show St x B C (t0 W) _ from su0 h 27 0⟩
  unfold fX5_copy
  repeat (first
    | (with_reducible refine e_l1 ?_)
    | ((with_reducible refine e_k ?_ (mkM h) ?_); focus rfl)
    | ((with_reducible refine e_p ?_ (mp1 h) ?_); focus rfl)
    | ((with_reducible refine e_p ?_ (mp2 h) ?_); focus rfl)
    | ((with_reducible refine e_p ?_ (mp3 h) ?_); focus rfl)
    | ((with_reducible refine e_p ?_ (mp4 h) ?_); focus rfl)
    | ((with_reducible refine e_p ?_ (mp5 h) ?_); focus rfl)
    | ((with_reducible refine e_p ?_ (mp6 h) ?_); focus rfl)
    | ((with_reducible refine e_p ?_ (mp7 h) ?_); focus rfl)
    | ((with_reducible refine e_p ?_ (mp8 h) ?_); focus rfl)
    | ((with_reducible refine e_p ?_ (mp9 h) ?_); focus rfl)
    | ((with_reducible refine e_p ?_ (mp10 h) ?_); focus rfl)
    | ((with_reducible refine e_p ?_ (mp11 h) ?_); focus rfl)
    | ((with_reducible refine e_p ?_ (mp12 h) ?_); focus rfl)
    | ((with_reducible refine e_p ?_ (mp13 h) ?_); focus rfl)
    | ((with_reducible refine e_p ?_ (mp14 h) ?_); focus rfl)
    | ((with_reducible refine e_p ?_ (mp15 h) ?_); focus rfl)
    | ((with_reducible refine e_p ?_ (mp16 h) ?_); focus rfl)
    | ((with_reducible refine e_p ?_ (mp17 h) ?_); focus rfl)
    | ((with_reducible refine e_p ?_ (mp18 h) ?_); focus rfl)
    | ((with_reducible refine e_p ?_ (mp19 h) ?_); focus rfl)
    | ((with_reducible refine e_p ?_ (mp20 h) ?_); focus rfl)
    | ((with_reducible refine e_p ?_ (mp21 h) ?_); focus rfl)
    | ((with_reducible refine e_o2 ?_ f0 ?_); focus (first | with_reducible rfl | (simp (disch := omega) only [b_all, sV_all, ↓reduceIte, Nat.reduceEqDiff, Nat.reduceLT, Nat.reduceLeDiff, Nat.reduceAdd, Nat.reduceMul, Nat.reduceSub, i_lit, eq_self, and_true, true_and, and_self, not_true_eq_false, not_false_eq_true, or_true, true_or, or_false, false_or, false_and, and_false, reduceCtorEq, Nat.add_left_cancel_iff, Nat.add_zero, Nat.zero_add, md_all h]; done)))
    | ((with_reducible refine e_ip ?_ ?_); focus (simp (disch := omega) only [b_all, sV_all, ↓reduceIte, Nat.reduceEqDiff, Nat.reduceLT, Nat.reduceLeDiff, Nat.reduceAdd, Nat.reduceMul, Nat.reduceSub, i_lit, eq_self, and_true, true_and, and_self, not_true_eq_false, not_false_eq_true, or_true, true_or, or_false, false_or, false_and, and_false, reduceCtorEq, Nat.add_left_cancel_iff, Nat.add_zero, Nat.zero_add, md_all h]; done))
    | ((with_reducible refine e_in ?_ ?_); focus (simp (disch := omega) only [b_all, sV_all, ↓reduceIte, Nat.reduceEqDiff, Nat.reduceLT, Nat.reduceLeDiff, Nat.reduceAdd, Nat.reduceMul, Nat.reduceSub, i_lit, eq_self, and_true, true_and, and_self, not_true_eq_false, not_false_eq_true, or_true, true_or, or_false, false_or, false_and, and_false, reduceCtorEq, Nat.add_left_cancel_iff, Nat.add_zero, Nat.zero_add, md_all h]; done))
    | unfold fX5_copy_18
    | fail)
  first | with_reducible rfl | simp (disch := omega) only [b_all, sV_all, ↓reduceIte, Nat.reduceEqDiff, Nat.reduceLT, Nat.reduceLeDiff, Nat.reduceAdd, Nat.reduceMul, Nat.reduceSub, i_lit, eq_self, and_true, true_and, and_self, not_true_eq_false, not_false_eq_true, or_true, true_or, or_false, false_or, false_and, and_false, reduceCtorEq, Nat.add_left_cancel_iff, Nat.add_zero, Nat.zero_add, md_all h]
theorem m_copy_ok (hk : 5000 ≤ k) (h : St x B C W M) (hb : Bd W) {i : Nat} (hi : i < W 0 23) (hl : W 0 23 < 300) : ∃ M', fX5_copy x k (B + 25) (i32 i) M = some (i32 1, M') ∧ St x B C (wCopy (t0 W) i) M' := by
  have h0 := hb.1
  have f0 := s_fails0 (k := k) h 1
  obtain ⟨M', e, h1⟩ := s_copy41 (k := k) (t0 W) (i := i) hi hl k 0 _ (show St x B C (t0 W) _ from su0 h 27 0) (by omega) (by omega)
  refine ⟨M', ?_, h1⟩
  rw [← e]
  unfold fX5_copy
  repeat (first
    | (with_reducible refine e_l1 ?_)
    | ((with_reducible refine e_k ?_ (mkM h) ?_); focus rfl)
    | ((with_reducible refine e_p ?_ (mp1 h) ?_); focus rfl)
    | ((with_reducible refine e_p ?_ (mp2 h) ?_); focus rfl)
    | ((with_reducible refine e_p ?_ (mp3 h) ?_); focus rfl)
    | ((with_reducible refine e_p ?_ (mp4 h) ?_); focus rfl)
    | ((with_reducible refine e_p ?_ (mp5 h) ?_); focus rfl)
    | ((with_reducible refine e_p ?_ (mp6 h) ?_); focus rfl)
    | ((with_reducible refine e_p ?_ (mp7 h) ?_); focus rfl)
    | ((with_reducible refine e_p ?_ (mp8 h) ?_); focus rfl)
    | ((with_reducible refine e_p ?_ (mp9 h) ?_); focus rfl)
    | ((with_reducible refine e_p ?_ (mp10 h) ?_); focus rfl)
    | ((with_reducible refine e_p ?_ (mp11 h) ?_); focus rfl)
    | ((with_reducible refine e_p ?_ (mp12 h) ?_); focus rfl)
    | ((with_reducible refine e_p ?_ (mp13 h) ?_); focus rfl)
    | ((with_reducible refine e_p ?_ (mp14 h) ?_); focus rfl)
    | ((with_reducible refine e_p ?_ (mp15 h) ?_); focus rfl)
    | ((with_reducible refine e_p ?_ (mp16 h) ?_); focus rfl)
    | ((with_reducible refine e_p ?_ (mp17 h) ?_); focus rfl)
    | ((with_reducible refine e_p ?_ (mp18 h) ?_); focus rfl)
    | ((with_reducible refine e_p ?_ (mp19 h) ?_); focus rfl)
    | ((with_reducible refine e_p ?_ (mp20 h) ?_); focus rfl)
    | ((with_reducible refine e_p ?_ (mp21 h) ?_); focus rfl)
    | ((with_reducible refine e_o2 ?_ f0 ?_); focus (first | with_reducible rfl | (simp (disch := omega) only [b_all, sV_all, ↓reduceIte, Nat.reduceEqDiff, Nat.reduceLT, Nat.reduceLeDiff, Nat.reduceAdd, Nat.reduceMul, Nat.reduceSub, i_lit, eq_self, and_true, true_and, and_self, not_true_eq_false, not_false_eq_true, or_true, true_or, or_false, false_or, false_and, and_false, reduceCtorEq, Nat.add_left_cancel_iff, Nat.add_zero, Nat.zero_add, md_all h]; done)))
    | ((with_reducible refine e_ip ?_ ?_); focus (simp (disch := omega) only [b_all, sV_all, ↓reduceIte, Nat.reduceEqDiff, Nat.reduceLT, Nat.reduceLeDiff, Nat.reduceAdd, Nat.reduceMul, Nat.reduceSub, i_lit, eq_self, and_true, true_and, and_self, not_true_eq_false, not_false_eq_true, or_true, true_or, or_false, false_or, false_and, and_false, reduceCtorEq, Nat.add_left_cancel_iff, Nat.add_zero, Nat.zero_add, md_all h]; done))
    | ((with_reducible refine e_in ?_ ?_); focus (simp (disch := omega) only [b_all, sV_all, ↓reduceIte, Nat.reduceEqDiff, Nat.reduceLT, Nat.reduceLeDiff, Nat.reduceAdd, Nat.reduceMul, Nat.reduceSub, i_lit, eq_self, and_true, true_and, and_self, not_true_eq_false, not_false_eq_true, or_true, true_or, or_false, false_or, false_and, and_false, reduceCtorEq, Nat.add_left_cancel_iff, Nat.add_zero, Nat.zero_add, md_all h]; done))
    | unfold fX5_copy_18
    | fail)
  first | with_reducible rfl | simp (disch := omega) only [b_all, sV_all, ↓reduceIte, Nat.reduceEqDiff, Nat.reduceLT, Nat.reduceLeDiff, Nat.reduceAdd, Nat.reduceMul, Nat.reduceSub, i_lit, eq_self, and_true, true_and, and_self, not_true_eq_false, not_false_eq_true, or_true, true_or, or_false, false_or, false_and, and_false, reduceCtorEq, Nat.add_left_cancel_iff, Nat.add_zero, Nat.zero_add, md_all h]
/-- crash, restart -/
theorem s_crash45 (W : Ab) (hb : Bd W) {s : Nat} (hs : s < 5) : ∀ (n t : Nat) (M : Mm), St x B C (crF W s t) M → t ≤ W 0 5 → W 0 5 < n + t → ∃ M', fX5_crash_45 x k n (B + 25) (i32 s) (i32 t) M = some ((), M') ∧ St x B C (crF W s (W 0 5)) M' := by
  have h0 := hb.1
  intro n
  induction n with
  | zero => intro j M _ h1 h2; omega
  | succ n ih =>
    intro t M h ht hn
    have e05 : crF W s t 0 5 = W 0 5 := crF_r _ _ (by omega) _ _
    have e4 : crF W s t 4 t = W 4 t := crF_r _ _ (by omega) _ _
    have e5 : crF W s t 5 t = W 5 t := crF_5 _ _ _ (Nat.le_refl _)
    have h4 : W 4 t < 5 := hb.r (by omega) t
    have h5 : W 5 t < 5 := hb.r (by omega) t
    by_cases hc : W 0 5 ≤ t
    · obtain rfl : t = W 0 5 := by omega
      refine ⟨M, ?_, h⟩
      rw [fX5_crash_45]
      repeat (first
        | (with_reducible refine e_l1 ?_)
        | ((with_reducible refine e_k ?_ (mkM h) ?_); focus rfl)
        | ((with_reducible refine e_p ?_ (mp1 h) ?_); focus rfl)
        | ((with_reducible refine e_p ?_ (mp2 h) ?_); focus rfl)
        | ((with_reducible refine e_p ?_ (mp3 h) ?_); focus rfl)
        | ((with_reducible refine e_p ?_ (mp4 h) ?_); focus rfl)
        | ((with_reducible refine e_p ?_ (mp5 h) ?_); focus rfl)
        | ((with_reducible refine e_p ?_ (mp6 h) ?_); focus rfl)
        | ((with_reducible refine e_p ?_ (mp7 h) ?_); focus rfl)
        | ((with_reducible refine e_p ?_ (mp8 h) ?_); focus rfl)
        | ((with_reducible refine e_p ?_ (mp9 h) ?_); focus rfl)
        | ((with_reducible refine e_p ?_ (mp10 h) ?_); focus rfl)
        | ((with_reducible refine e_p ?_ (mp11 h) ?_); focus rfl)
        | ((with_reducible refine e_p ?_ (mp12 h) ?_); focus rfl)
        | ((with_reducible refine e_p ?_ (mp13 h) ?_); focus rfl)
        | ((with_reducible refine e_p ?_ (mp14 h) ?_); focus rfl)
        | ((with_reducible refine e_p ?_ (mp15 h) ?_); focus rfl)
        | ((with_reducible refine e_p ?_ (mp16 h) ?_); focus rfl)
        | ((with_reducible refine e_p ?_ (mp17 h) ?_); focus rfl)
        | ((with_reducible refine e_p ?_ (mp18 h) ?_); focus rfl)
        | ((with_reducible refine e_p ?_ (mp19 h) ?_); focus rfl)
        | ((with_reducible refine e_p ?_ (mp20 h) ?_); focus rfl)
        | ((with_reducible refine e_p ?_ (mp21 h) ?_); focus rfl)
        | ((with_reducible refine e_ip ?_ ?_); focus (simp (disch := omega) only [b_all, sV_all, ↓reduceIte, Nat.reduceEqDiff, Nat.reduceLT, Nat.reduceLeDiff, Nat.reduceAdd, Nat.reduceMul, Nat.reduceSub, i_lit, eq_self, and_true, true_and, and_self, not_true_eq_false, not_false_eq_true, or_true, true_or, or_false, false_or, false_and, and_false, reduceCtorEq, Nat.add_left_cancel_iff, Nat.add_zero, Nat.zero_add, md_all h, e05]; done))
        | ((with_reducible refine e_in ?_ ?_); focus (simp (disch := omega) only [b_all, sV_all, ↓reduceIte, Nat.reduceEqDiff, Nat.reduceLT, Nat.reduceLeDiff, Nat.reduceAdd, Nat.reduceMul, Nat.reduceSub, i_lit, eq_self, and_true, true_and, and_self, not_true_eq_false, not_false_eq_true, or_true, true_or, or_false, false_or, false_and, and_false, reduceCtorEq, Nat.add_left_cancel_iff, Nat.add_zero, Nat.zero_add, md_all h, e05]; done))
        | fail)
      first | with_reducible rfl | simp (disch := omega) only [b_all, sV_all, ↓reduceIte, Nat.reduceEqDiff, Nat.reduceLT, Nat.reduceLeDiff, Nat.reduceAdd, Nat.reduceMul, Nat.reduceSub, i_lit, eq_self, and_true, true_and, and_self, not_true_eq_false, not_false_eq_true, or_true, true_or, or_false, false_or, false_and, and_false, reduceCtorEq, Nat.add_left_cancel_iff, Nat.add_zero, Nat.zero_add, md_all h, e05]
    · by_cases c : W 4 t = s ∧ W 5 t ≤ 1
      · by_cases c1 : W 5 t = 1
        · have e0 : crF W s (t + 1) = U (U (U (crF W s t) 9 (5 * t + s) 0) 19 t 1) 5 t 4 := by rw [crF, if_pos c, if_pos c1]
          obtain ⟨M', e, hM⟩ := ih (t + 1) _ (by rw [e0]; exact su5 (su19 (su9 h _ _) _ _) _ _) (by omega) (by omega)
          refine ⟨M', ?_, hM⟩
          rw [← e, fX5_crash_45]
          repeat (first
            | (with_reducible refine e_l1 ?_)
            | ((with_reducible refine e_k ?_ (mkM h) ?_); focus rfl)
            | ((with_reducible refine e_p ?_ (mp1 h) ?_); focus rfl)
            | ((with_reducible refine e_p ?_ (mp2 h) ?_); focus rfl)
            | ((with_reducible refine e_p ?_ (mp3 h) ?_); focus rfl)
            | ((with_reducible refine e_p ?_ (mp4 h) ?_); focus rfl)
            | ((with_reducible refine e_p ?_ (mp5 h) ?_); focus rfl)
            | ((with_reducible refine e_p ?_ (mp6 h) ?_); focus rfl)
            | ((with_reducible refine e_p ?_ (mp7 h) ?_); focus rfl)
            | ((with_reducible refine e_p ?_ (mp8 h) ?_); focus rfl)
            | ((with_reducible refine e_p ?_ (mp9 h) ?_); focus rfl)
            | ((with_reducible refine e_p ?_ (mp10 h) ?_); focus rfl)
            | ((with_reducible refine e_p ?_ (mp11 h) ?_); focus rfl)
            | ((with_reducible refine e_p ?_ (mp12 h) ?_); focus rfl)
            | ((with_reducible refine e_p ?_ (mp13 h) ?_); focus rfl)
            | ((with_reducible refine e_p ?_ (mp14 h) ?_); focus rfl)
            | ((with_reducible refine e_p ?_ (mp15 h) ?_); focus rfl)
            | ((with_reducible refine e_p ?_ (mp16 h) ?_); focus rfl)
            | ((with_reducible refine e_p ?_ (mp17 h) ?_); focus rfl)
            | ((with_reducible refine e_p ?_ (mp18 h) ?_); focus rfl)
            | ((with_reducible refine e_p ?_ (mp19 h) ?_); focus rfl)
            | ((with_reducible refine e_p ?_ (mp20 h) ?_); focus rfl)
            | ((with_reducible refine e_p ?_ (mp21 h) ?_); focus rfl)
            | ((with_reducible refine e_ip ?_ ?_); focus (simp (disch := omega) only [b_all, sV_all, ↓reduceIte, Nat.reduceEqDiff, Nat.reduceLT, Nat.reduceLeDiff, Nat.reduceAdd, Nat.reduceMul, Nat.reduceSub, i_lit, eq_self, and_true, true_and, and_self, not_true_eq_false, not_false_eq_true, or_true, true_or, or_false, false_or, false_and, and_false, reduceCtorEq, Nat.add_left_cancel_iff, Nat.add_zero, Nat.zero_add, md_all h, e05, e4, e5]; done))
            | ((with_reducible refine e_in ?_ ?_); focus (simp (disch := omega) only [b_all, sV_all, ↓reduceIte, Nat.reduceEqDiff, Nat.reduceLT, Nat.reduceLeDiff, Nat.reduceAdd, Nat.reduceMul, Nat.reduceSub, i_lit, eq_self, and_true, true_and, and_self, not_true_eq_false, not_false_eq_true, or_true, true_or, or_false, false_or, false_and, and_false, reduceCtorEq, Nat.add_left_cancel_iff, Nat.add_zero, Nat.zero_add, md_all h, e05, e4, e5]; done))
            | unfold fX5_crash_107
            | unfold fX5_crash_115
            | fail)
          first | with_reducible rfl | simp (disch := omega) only [b_all, sV_all, ↓reduceIte, Nat.reduceEqDiff, Nat.reduceLT, Nat.reduceLeDiff, Nat.reduceAdd, Nat.reduceMul, Nat.reduceSub, i_lit, eq_self, and_true, true_and, and_self, not_true_eq_false, not_false_eq_true, or_true, true_or, or_false, false_or, false_and, and_false, reduceCtorEq, Nat.add_left_cancel_iff, Nat.add_zero, Nat.zero_add, md_all h, e05, e4, e5]
        · have e0 : crF W s (t + 1) = U (U (U (crF W s t) 9 (5 * t + s) 0) 19 t 0) 5 t 4 := by rw [crF, if_pos c, if_neg c1]
          obtain ⟨M', e, hM⟩ := ih (t + 1) _ (by rw [e0]; exact su5 (su19 (su9 h _ _) _ _) _ _) (by omega) (by omega)
          refine ⟨M', ?_, hM⟩
          rw [← e, fX5_crash_45]
          repeat (first
            | (with_reducible refine e_l1 ?_)
            | ((with_reducible refine e_k ?_ (mkM h) ?_); focus rfl)
            | ((with_reducible refine e_p ?_ (mp1 h) ?_); focus rfl)
            | ((with_reducible refine e_p ?_ (mp2 h) ?_); focus rfl)
            | ((with_reducible refine e_p ?_ (mp3 h) ?_); focus rfl)
            | ((with_reducible refine e_p ?_ (mp4 h) ?_); focus rfl)
            | ((with_reducible refine e_p ?_ (mp5 h) ?_); focus rfl)
            | ((with_reducible refine e_p ?_ (mp6 h) ?_); focus rfl)
            | ((with_reducible refine e_p ?_ (mp7 h) ?_); focus rfl)
            | ((with_reducible refine e_p ?_ (mp8 h) ?_); focus rfl)
            | ((with_reducible refine e_p ?_ (mp9 h) ?_); focus rfl)
            | ((with_reducible refine e_p ?_ (mp10 h) ?_); focus rfl)
            | ((with_reducible refine e_p ?_ (mp11 h) ?_); focus rfl)
            | ((with_reducible refine e_p ?_ (mp12 h) ?_); focus rfl)
            | ((with_reducible refine e_p ?_ (mp13 h) ?_); focus rfl)
            | ((with_reducible refine e_p ?_ (mp14 h) ?_); focus rfl)
            | ((with_reducible refine e_p ?_ (mp15 h) ?_); focus rfl)
            | ((with_reducible refine e_p ?_ (mp16 h) ?_); focus rfl)
            | ((with_reducible refine e_p ?_ (mp17 h) ?_); focus rfl)
            | ((with_reducible refine e_p ?_ (mp18 h) ?_); focus rfl)
            | ((with_reducible refine e_p ?_ (mp19 h) ?_); focus rfl)
            | ((with_reducible refine e_p ?_ (mp20 h) ?_); focus rfl)
            | ((with_reducible refine e_p ?_ (mp21 h) ?_); focus rfl)
            | ((with_reducible refine e_ip ?_ ?_); focus (simp (disch := omega) only [b_all, sV_all, ↓reduceIte, Nat.reduceEqDiff, Nat.reduceLT, Nat.reduceLeDiff, Nat.reduceAdd, Nat.reduceMul, Nat.reduceSub, i_lit, eq_self, and_true, true_and, and_self, not_true_eq_false, not_false_eq_true, or_true, true_or, or_false, false_or, false_and, and_false, reduceCtorEq, Nat.add_left_cancel_iff, Nat.add_zero, Nat.zero_add, md_all h, e05, e4, e5]; done))
            | ((with_reducible refine e_in ?_ ?_); focus (simp (disch := omega) only [b_all, sV_all, ↓reduceIte, Nat.reduceEqDiff, Nat.reduceLT, Nat.reduceLeDiff, Nat.reduceAdd, Nat.reduceMul, Nat.reduceSub, i_lit, eq_self, and_true, true_and, and_self, not_true_eq_false, not_false_eq_true, or_true, true_or, or_false, false_or, false_and, and_false, reduceCtorEq, Nat.add_left_cancel_iff, Nat.add_zero, Nat.zero_add, md_all h, e05, e4, e5]; done))
            | unfold fX5_crash_107
            | unfold fX5_crash_115
            | fail)
          first | with_reducible rfl | simp (disch := omega) only [b_all, sV_all, ↓reduceIte, Nat.reduceEqDiff, Nat.reduceLT, Nat.reduceLeDiff, Nat.reduceAdd, Nat.reduceMul, Nat.reduceSub, i_lit, eq_self, and_true, true_and, and_self, not_true_eq_false, not_false_eq_true, or_true, true_or, or_false, false_or, false_and, and_false, reduceCtorEq, Nat.add_left_cancel_iff, Nat.add_zero, Nat.zero_add, md_all h, e05, e4, e5]
      · have e0 : crF W s (t + 1) = U (crF W s t) 9 (5 * t + s) 0 := by rw [crF, if_neg c]
        obtain ⟨M', e, hM⟩ := ih (t + 1) _ (by rw [e0]; exact su9 h _ _) (by omega) (by omega)
        refine ⟨M', ?_, hM⟩
        rw [← e, fX5_crash_45]
        by_cases c1 : W 4 t = s
        · have c2 : ¬ W 5 t ≤ 1 := fun z => c ⟨c1, z⟩
          repeat (first
            | (with_reducible refine e_l1 ?_)
            | ((with_reducible refine e_k ?_ (mkM h) ?_); focus rfl)
            | ((with_reducible refine e_p ?_ (mp1 h) ?_); focus rfl)
            | ((with_reducible refine e_p ?_ (mp2 h) ?_); focus rfl)
            | ((with_reducible refine e_p ?_ (mp3 h) ?_); focus rfl)
            | ((with_reducible refine e_p ?_ (mp4 h) ?_); focus rfl)
            | ((with_reducible refine e_p ?_ (mp5 h) ?_); focus rfl)
            | ((with_reducible refine e_p ?_ (mp6 h) ?_); focus rfl)
            | ((with_reducible refine e_p ?_ (mp7 h) ?_); focus rfl)
            | ((with_reducible refine e_p ?_ (mp8 h) ?_); focus rfl)
            | ((with_reducible refine e_p ?_ (mp9 h) ?_); focus rfl)
            | ((with_reducible refine e_p ?_ (mp10 h) ?_); focus rfl)
            | ((with_reducible refine e_p ?_ (mp11 h) ?_); focus rfl)
            | ((with_reducible refine e_p ?_ (mp12 h) ?_); focus rfl)
            | ((with_reducible refine e_p ?_ (mp13 h) ?_); focus rfl)
            | ((with_reducible refine e_p ?_ (mp14 h) ?_); focus rfl)
            | ((with_reducible refine e_p ?_ (mp15 h) ?_); focus rfl)
            | ((with_reducible refine e_p ?_ (mp16 h) ?_); focus rfl)
            | ((with_reducible refine e_p ?_ (mp17 h) ?_); focus rfl)
            | ((with_reducible refine e_p ?_ (mp18 h) ?_); focus rfl)
            | ((with_reducible refine e_p ?_ (mp19 h) ?_); focus rfl)
            | ((with_reducible refine e_p ?_ (mp20 h) ?_); focus rfl)
            | ((with_reducible refine e_p ?_ (mp21 h) ?_); focus rfl)
            | ((with_reducible refine e_ip ?_ ?_); focus (simp (disch := omega) only [b_all, sV_all, ↓reduceIte, Nat.reduceEqDiff, Nat.reduceLT, Nat.reduceLeDiff, Nat.reduceAdd, Nat.reduceMul, Nat.reduceSub, i_lit, eq_self, and_true, true_and, and_self, not_true_eq_false, not_false_eq_true, or_true, true_or, or_false, false_or, false_and, and_false, reduceCtorEq, Nat.add_left_cancel_iff, Nat.add_zero, Nat.zero_add, md_all h, e05, e4, e5]; done))
            | ((with_reducible refine e_in ?_ ?_); focus (simp (disch := omega) only [b_all, sV_all, ↓reduceIte, Nat.reduceEqDiff, Nat.reduceLT, Nat.reduceLeDiff, Nat.reduceAdd, Nat.reduceMul, Nat.reduceSub, i_lit, eq_self, and_true, true_and, and_self, not_true_eq_false, not_false_eq_true, or_true, true_or, or_false, false_or, false_and, and_false, reduceCtorEq, Nat.add_left_cancel_iff, Nat.add_zero, Nat.zero_add, md_all h, e05, e4, e5]; done))
            | unfold fX5_crash_115
            | fail)
          first | with_reducible rfl | simp (disch := omega) only [b_all, sV_all, ↓reduceIte, Nat.reduceEqDiff, Nat.reduceLT, Nat.reduceLeDiff, Nat.reduceAdd, Nat.reduceMul, Nat.reduceSub, i_lit, eq_self, and_true, true_and, and_self, not_true_eq_false, not_false_eq_true, or_true, true_or, or_false, false_or, false_and, and_false, reduceCtorEq, Nat.add_left_cancel_iff, Nat.add_zero, Nat.zero_add, md_all h, e05, e4, e5]
        · repeat (first
            | (with_reducible refine e_l1 ?_)
            | ((with_reducible refine e_k ?_ (mkM h) ?_); focus rfl)
            | ((with_reducible refine e_p ?_ (mp1 h) ?_); focus rfl)
            | ((with_reducible refine e_p ?_ (mp2 h) ?_); focus rfl)
            | ((with_reducible refine e_p ?_ (mp3 h) ?_); focus rfl)
            | ((with_reducible refine e_p ?_ (mp4 h) ?_); focus rfl)
            | ((with_reducible refine e_p ?_ (mp5 h) ?_); focus rfl)
            | ((with_reducible refine e_p ?_ (mp6 h) ?_); focus rfl)
            | ((with_reducible refine e_p ?_ (mp7 h) ?_); focus rfl)
            | ((with_reducible refine e_p ?_ (mp8 h) ?_); focus rfl)
            | ((with_reducible refine e_p ?_ (mp9 h) ?_); focus rfl)
            | ((with_reducible refine e_p ?_ (mp10 h) ?_); focus rfl)
            | ((with_reducible refine e_p ?_ (mp11 h) ?_); focus rfl)
            | ((with_reducible refine e_p ?_ (mp12 h) ?_); focus rfl)
            | ((with_reducible refine e_p ?_ (mp13 h) ?_); focus rfl)
            | ((with_reducible refine e_p ?_ (mp14 h) ?_); focus rfl)
            | ((with_reducible refine e_p ?_ (mp15 h) ?_); focus rfl)
            | ((with_reducible refine e_p ?_ (mp16 h) ?_); focus rfl)
            | ((with_reducible refine e_p ?_ (mp17 h) ?_); focus rfl)
            | ((with_reducible refine e_p ?_ (mp18 h) ?_); focus rfl)
            | ((with_reducible refine e_p ?_ (mp19 h) ?_); focus rfl)
            | ((with_reducible refine e_p ?_ (mp20 h) ?_); focus rfl)
            | ((with_reducible refine e_p ?_ (mp21 h) ?_); focus rfl)
            | ((with_reducible refine e_ip ?_ ?_); focus (simp (disch := omega) only [b_all, sV_all, ↓reduceIte, Nat.reduceEqDiff, Nat.reduceLT, Nat.reduceLeDiff, Nat.reduceAdd, Nat.reduceMul, Nat.reduceSub, i_lit, eq_self, and_true, true_and, and_self, not_true_eq_false, not_false_eq_true, or_true, true_or, or_false, false_or, false_and, and_false, reduceCtorEq, Nat.add_left_cancel_iff, Nat.add_zero, Nat.zero_add, md_all h, e05, e4, e5]; done))
            | ((with_reducible refine e_in ?_ ?_); focus (simp (disch := omega) only [b_all, sV_all, ↓reduceIte, Nat.reduceEqDiff, Nat.reduceLT, Nat.reduceLeDiff, Nat.reduceAdd, Nat.reduceMul, Nat.reduceSub, i_lit, eq_self, and_true, true_and, and_self, not_true_eq_false, not_false_eq_true, or_true, true_or, or_false, false_or, false_and, and_false, reduceCtorEq, Nat.add_left_cancel_iff, Nat.add_zero, Nat.zero_add, md_all h, e05, e4, e5]; done))
            | unfold fX5_crash_115
            | fail)
          first | with_reducible rfl | simp (disch := omega) only [b_all, sV_all, ↓reduceIte, Nat.reduceEqDiff, Nat.reduceLT, Nat.reduceLeDiff, Nat.reduceAdd, Nat.reduceMul, Nat.reduceSub, i_lit, eq_self, and_true, true_and, and_self, not_true_eq_false, not_false_eq_true, or_true, true_or, or_false, false_or, false_and, and_false, reduceCtorEq, Nat.add_left_cancel_iff, Nat.add_zero, Nat.zero_add, md_all h, e05, e4, e5]
theorem m_crash_iae (h : St x B C W M) (hb : Bd W) {s : Nat} (hs' : s < 4294967296) (hs : ¬ s < W 0 0) : fX5_crash x k (B + 25) (i32 s) M = some ((), sV M (B + 25) 27 (i32 1)) := by
  have ei := s_isSite (k := k) h hs' hb.1.2.1
  have f0 := s_fails1 (k := k) h 1
  unfold fX5_crash
  repeat (first
    | (with_reducible refine e_l1 ?_)
    | ((with_reducible refine e_k ?_ (mkM h) ?_); focus rfl)
    | ((with_reducible refine e_p ?_ (mp1 h) ?_); focus rfl)
    | ((with_reducible refine e_p ?_ (mp2 h) ?_); focus rfl)
    | ((with_reducible refine e_p ?_ (mp3 h) ?_); focus rfl)
    | ((with_reducible refine e_p ?_ (mp4 h) ?_); focus rfl)
    | ((with_reducible refine e_p ?_ (mp5 h) ?_); focus rfl)
    | ((with_reducible refine e_p ?_ (mp6 h) ?_); focus rfl)
    | ((with_reducible refine e_p ?_ (mp7 h) ?_); focus rfl)
    | ((with_reducible refine e_p ?_ (mp8 h) ?_); focus rfl)
    | ((with_reducible refine e_p ?_ (mp9 h) ?_); focus rfl)
    | ((with_reducible refine e_p ?_ (mp10 h) ?_); focus rfl)
    | ((with_reducible refine e_p ?_ (mp11 h) ?_); focus rfl)
    | ((with_reducible refine e_p ?_ (mp12 h) ?_); focus rfl)
    | ((with_reducible refine e_p ?_ (mp13 h) ?_); focus rfl)
    | ((with_reducible refine e_p ?_ (mp14 h) ?_); focus rfl)
    | ((with_reducible refine e_p ?_ (mp15 h) ?_); focus rfl)
    | ((with_reducible refine e_p ?_ (mp16 h) ?_); focus rfl)
    | ((with_reducible refine e_p ?_ (mp17 h) ?_); focus rfl)
    | ((with_reducible refine e_p ?_ (mp18 h) ?_); focus rfl)
    | ((with_reducible refine e_p ?_ (mp19 h) ?_); focus rfl)
    | ((with_reducible refine e_p ?_ (mp20 h) ?_); focus rfl)
    | ((with_reducible refine e_p ?_ (mp21 h) ?_); focus rfl)
    | ((with_reducible refine e_o2 ?_ ei ?_); focus (first | with_reducible rfl | (simp (disch := omega) only [b_all, sV_all, ↓reduceIte, Nat.reduceEqDiff, Nat.reduceLT, Nat.reduceLeDiff, Nat.reduceAdd, Nat.reduceMul, Nat.reduceSub, i_lit, eq_self, and_true, true_and, and_self, not_true_eq_false, not_false_eq_true, or_true, true_or, or_false, false_or, false_and, and_false, reduceCtorEq, Nat.add_left_cancel_iff, Nat.add_zero, Nat.zero_add, md_all h]; done)))
    | ((with_reducible refine e_o2 ?_ f0 ?_); focus (first | with_reducible rfl | (simp (disch := omega) only [b_all, sV_all, ↓reduceIte, Nat.reduceEqDiff, Nat.reduceLT, Nat.reduceLeDiff, Nat.reduceAdd, Nat.reduceMul, Nat.reduceSub, i_lit, eq_self, and_true, true_and, and_self, not_true_eq_false, not_false_eq_true, or_true, true_or, or_false, false_or, false_and, and_false, reduceCtorEq, Nat.add_left_cancel_iff, Nat.add_zero, Nat.zero_add, md_all h]; done)))
    | ((with_reducible refine e_ip ?_ ?_); focus (simp (disch := omega) only [b_all, sV_all, ↓reduceIte, Nat.reduceEqDiff, Nat.reduceLT, Nat.reduceLeDiff, Nat.reduceAdd, Nat.reduceMul, Nat.reduceSub, i_lit, eq_self, and_true, true_and, and_self, not_true_eq_false, not_false_eq_true, or_true, true_or, or_false, false_or, false_and, and_false, reduceCtorEq, Nat.add_left_cancel_iff, Nat.add_zero, Nat.zero_add, md_all h]; done))
    | ((with_reducible refine e_in ?_ ?_); focus (simp (disch := omega) only [b_all, sV_all, ↓reduceIte, Nat.reduceEqDiff, Nat.reduceLT, Nat.reduceLeDiff, Nat.reduceAdd, Nat.reduceMul, Nat.reduceSub, i_lit, eq_self, and_true, true_and, and_self, not_true_eq_false, not_false_eq_true, or_true, true_or, or_false, false_or, false_and, and_false, reduceCtorEq, Nat.add_left_cancel_iff, Nat.add_zero, Nat.zero_add, md_all h]; done))
    | unfold fX5_crash_14
    | unfold fX5_crash_35
    | fail)
  first | with_reducible rfl | simp (disch := omega) only [b_all, sV_all, ↓reduceIte, Nat.reduceEqDiff, Nat.reduceLT, Nat.reduceLeDiff, Nat.reduceAdd, Nat.reduceMul, Nat.reduceSub, i_lit, eq_self, and_true, true_and, and_self, not_true_eq_false, not_false_eq_true, or_true, true_or, or_false, false_or, false_and, and_false, reduceCtorEq, Nat.add_left_cancel_iff, Nat.add_zero, Nat.zero_add, md_all h]
theorem m_crash_ise (h : St x B C W M) (hb : Bd W) {s : Nat} (hs : s < W 0 0) (hd : W 2 s ≠ 0) : fX5_crash x k (B + 25) (i32 s) M = some ((), sV (sV M (B + 25) 27 (i32 0)) (B + 25) 27 (i32 2)) := by
  have h0 := hb.1
  have h2 : W 2 s < 2 := hb.r (by omega) s
  have e2 : W 2 s = 1 := by omega
  have ei := s_isSite (k := k) h (a := s) (by omega) hb.1.2.1
  have f0 := s_fails0 (k := k) h 1
  have f1 := s_fails1 (k := k) (su0 h 27 0) 2
  unfold fX5_crash
  repeat (first
    | (with_reducible refine e_l1 ?_)
    | ((with_reducible refine e_k ?_ (mkM h) ?_); focus rfl)
    | ((with_reducible refine e_p ?_ (mp1 h) ?_); focus rfl)
    | ((with_reducible refine e_p ?_ (mp2 h) ?_); focus rfl)
    | ((with_reducible refine e_p ?_ (mp3 h) ?_); focus rfl)
    | ((with_reducible refine e_p ?_ (mp4 h) ?_); focus rfl)
    | ((with_reducible refine e_p ?_ (mp5 h) ?_); focus rfl)
    | ((with_reducible refine e_p ?_ (mp6 h) ?_); focus rfl)
    | ((with_reducible refine e_p ?_ (mp7 h) ?_); focus rfl)
    | ((with_reducible refine e_p ?_ (mp8 h) ?_); focus rfl)
    | ((with_reducible refine e_p ?_ (mp9 h) ?_); focus rfl)
    | ((with_reducible refine e_p ?_ (mp10 h) ?_); focus rfl)
    | ((with_reducible refine e_p ?_ (mp11 h) ?_); focus rfl)
    | ((with_reducible refine e_p ?_ (mp12 h) ?_); focus rfl)
    | ((with_reducible refine e_p ?_ (mp13 h) ?_); focus rfl)
    | ((with_reducible refine e_p ?_ (mp14 h) ?_); focus rfl)
    | ((with_reducible refine e_p ?_ (mp15 h) ?_); focus rfl)
    | ((with_reducible refine e_p ?_ (mp16 h) ?_); focus rfl)
    | ((with_reducible refine e_p ?_ (mp17 h) ?_); focus rfl)
    | ((with_reducible refine e_p ?_ (mp18 h) ?_); focus rfl)
    | ((with_reducible refine e_p ?_ (mp19 h) ?_); focus rfl)
    | ((with_reducible refine e_p ?_ (mp20 h) ?_); focus rfl)
    | ((with_reducible refine e_p ?_ (mp21 h) ?_); focus rfl)
    | ((with_reducible refine e_o2 ?_ ei ?_); focus (first | with_reducible rfl | (simp (disch := omega) only [b_all, sV_all, ↓reduceIte, Nat.reduceEqDiff, Nat.reduceLT, Nat.reduceLeDiff, Nat.reduceAdd, Nat.reduceMul, Nat.reduceSub, i_lit, eq_self, and_true, true_and, and_self, not_true_eq_false, not_false_eq_true, or_true, true_or, or_false, false_or, false_and, and_false, reduceCtorEq, Nat.add_left_cancel_iff, Nat.add_zero, Nat.zero_add, md_all h, e2]; done)))
    | ((with_reducible refine e_o2 ?_ f0 ?_); focus (first | with_reducible rfl | (simp (disch := omega) only [b_all, sV_all, ↓reduceIte, Nat.reduceEqDiff, Nat.reduceLT, Nat.reduceLeDiff, Nat.reduceAdd, Nat.reduceMul, Nat.reduceSub, i_lit, eq_self, and_true, true_and, and_self, not_true_eq_false, not_false_eq_true, or_true, true_or, or_false, false_or, false_and, and_false, reduceCtorEq, Nat.add_left_cancel_iff, Nat.add_zero, Nat.zero_add, md_all h, e2]; done)))
    | ((with_reducible refine e_o2 ?_ f1 ?_); focus (first | with_reducible rfl | (simp (disch := omega) only [b_all, sV_all, ↓reduceIte, Nat.reduceEqDiff, Nat.reduceLT, Nat.reduceLeDiff, Nat.reduceAdd, Nat.reduceMul, Nat.reduceSub, i_lit, eq_self, and_true, true_and, and_self, not_true_eq_false, not_false_eq_true, or_true, true_or, or_false, false_or, false_and, and_false, reduceCtorEq, Nat.add_left_cancel_iff, Nat.add_zero, Nat.zero_add, md_all h, e2]; done)))
    | ((with_reducible refine e_ip ?_ ?_); focus (simp (disch := omega) only [b_all, sV_all, ↓reduceIte, Nat.reduceEqDiff, Nat.reduceLT, Nat.reduceLeDiff, Nat.reduceAdd, Nat.reduceMul, Nat.reduceSub, i_lit, eq_self, and_true, true_and, and_self, not_true_eq_false, not_false_eq_true, or_true, true_or, or_false, false_or, false_and, and_false, reduceCtorEq, Nat.add_left_cancel_iff, Nat.add_zero, Nat.zero_add, md_all h, e2]; done))
    | ((with_reducible refine e_in ?_ ?_); focus (simp (disch := omega) only [b_all, sV_all, ↓reduceIte, Nat.reduceEqDiff, Nat.reduceLT, Nat.reduceLeDiff, Nat.reduceAdd, Nat.reduceMul, Nat.reduceSub, i_lit, eq_self, and_true, true_and, and_self, not_true_eq_false, not_false_eq_true, or_true, true_or, or_false, false_or, false_and, and_false, reduceCtorEq, Nat.add_left_cancel_iff, Nat.add_zero, Nat.zero_add, md_all h, e2]; done))
    | unfold fX5_crash_14
    | unfold fX5_crash_35
    | fail)
  first | with_reducible rfl | simp (disch := omega) only [b_all, sV_all, ↓reduceIte, Nat.reduceEqDiff, Nat.reduceLT, Nat.reduceLeDiff, Nat.reduceAdd, Nat.reduceMul, Nat.reduceSub, i_lit, eq_self, and_true, true_and, and_self, not_true_eq_false, not_false_eq_true, or_true, true_or, or_false, false_or, false_and, and_false, reduceCtorEq, Nat.add_left_cancel_iff, Nat.add_zero, Nat.zero_add, md_all h, e2]
theorem m_crash_ok (hk : 5000 ≤ k) (h : St x B C W M) (hb : Bd W) {s : Nat} (hs : s < W 0 0) (hd : W 2 s = 0) : ∃ M', fX5_crash x k (B + 25) (i32 s) M = some ((), M') ∧ St x B C (wCrash W s) M' := by
  have h0 := hb.1
  have ei := s_isSite (k := k) h (a := s) (by omega) hb.1.2.1
  have f0 := s_fails0 (k := k) h 1
  have f1 := s_fails0 (k := k) (su0 h 27 0) 2
  have h5 : U (t00 W) 2 s 1 0 5 = W 0 5 := rfl
  obtain ⟨M', e, h1⟩ := s_crash45 (k := k) (U (t00 W) 2 s 1) (hb.t00.u (by omega) _ (by decide)) (s := s) (by omega) k 0 _ (show St x B C (U (t00 W) 2 s 1) _ from su2 (su0 (su0 h 27 0) 27 0) s 1) (by omega) (by omega)
  refine ⟨M', ?_, h1⟩
  rw [← e]
  unfold fX5_crash
  repeat (first
    | (with_reducible refine e_l1 ?_)
    | ((with_reducible refine e_k ?_ (mkM h) ?_); focus rfl)
    | ((with_reducible refine e_p ?_ (mp1 h) ?_); focus rfl)
    | ((with_reducible refine e_p ?_ (mp2 h) ?_); focus rfl)
    | ((with_reducible refine e_p ?_ (mp3 h) ?_); focus rfl)
    | ((with_reducible refine e_p ?_ (mp4 h) ?_); focus rfl)
    | ((with_reducible refine e_p ?_ (mp5 h) ?_); focus rfl)
    | ((with_reducible refine e_p ?_ (mp6 h) ?_); focus rfl)
    | ((with_reducible refine e_p ?_ (mp7 h) ?_); focus rfl)
    | ((with_reducible refine e_p ?_ (mp8 h) ?_); focus rfl)
    | ((with_reducible refine e_p ?_ (mp9 h) ?_); focus rfl)
    | ((with_reducible refine e_p ?_ (mp10 h) ?_); focus rfl)
    | ((with_reducible refine e_p ?_ (mp11 h) ?_); focus rfl)
    | ((with_reducible refine e_p ?_ (mp12 h) ?_); focus rfl)
    | ((with_reducible refine e_p ?_ (mp13 h) ?_); focus rfl)
    | ((with_reducible refine e_p ?_ (mp14 h) ?_); focus rfl)
    | ((with_reducible refine e_p ?_ (mp15 h) ?_); focus rfl)
    | ((with_reducible refine e_p ?_ (mp16 h) ?_); focus rfl)
    | ((with_reducible refine e_p ?_ (mp17 h) ?_); focus rfl)
    | ((with_reducible refine e_p ?_ (mp18 h) ?_); focus rfl)
    | ((with_reducible refine e_p ?_ (mp19 h) ?_); focus rfl)
    | ((with_reducible refine e_p ?_ (mp20 h) ?_); focus rfl)
    | ((with_reducible refine e_p ?_ (mp21 h) ?_); focus rfl)
    | ((with_reducible refine e_o2 ?_ ei ?_); focus (first | with_reducible rfl | (simp (disch := omega) only [b_all, sV_all, ↓reduceIte, Nat.reduceEqDiff, Nat.reduceLT, Nat.reduceLeDiff, Nat.reduceAdd, Nat.reduceMul, Nat.reduceSub, i_lit, eq_self, and_true, true_and, and_self, not_true_eq_false, not_false_eq_true, or_true, true_or, or_false, false_or, false_and, and_false, reduceCtorEq, Nat.add_left_cancel_iff, Nat.add_zero, Nat.zero_add, md_all h, hd]; done)))
    | ((with_reducible refine e_o2 ?_ f0 ?_); focus (first | with_reducible rfl | (simp (disch := omega) only [b_all, sV_all, ↓reduceIte, Nat.reduceEqDiff, Nat.reduceLT, Nat.reduceLeDiff, Nat.reduceAdd, Nat.reduceMul, Nat.reduceSub, i_lit, eq_self, and_true, true_and, and_self, not_true_eq_false, not_false_eq_true, or_true, true_or, or_false, false_or, false_and, and_false, reduceCtorEq, Nat.add_left_cancel_iff, Nat.add_zero, Nat.zero_add, md_all h, hd]; done)))
    | ((with_reducible refine e_o2 ?_ f1 ?_); focus (first | with_reducible rfl | (simp (disch := omega) only [b_all, sV_all, ↓reduceIte, Nat.reduceEqDiff, Nat.reduceLT, Nat.reduceLeDiff, Nat.reduceAdd, Nat.reduceMul, Nat.reduceSub, i_lit, eq_self, and_true, true_and, and_self, not_true_eq_false, not_false_eq_true, or_true, true_or, or_false, false_or, false_and, and_false, reduceCtorEq, Nat.add_left_cancel_iff, Nat.add_zero, Nat.zero_add, md_all h, hd]; done)))
    | ((with_reducible refine e_ip ?_ ?_); focus (simp (disch := omega) only [b_all, sV_all, ↓reduceIte, Nat.reduceEqDiff, Nat.reduceLT, Nat.reduceLeDiff, Nat.reduceAdd, Nat.reduceMul, Nat.reduceSub, i_lit, eq_self, and_true, true_and, and_self, not_true_eq_false, not_false_eq_true, or_true, true_or, or_false, false_or, false_and, and_false, reduceCtorEq, Nat.add_left_cancel_iff, Nat.add_zero, Nat.zero_add, md_all h, hd]; done))
    | ((with_reducible refine e_in ?_ ?_); focus (simp (disch := omega) only [b_all, sV_all, ↓reduceIte, Nat.reduceEqDiff, Nat.reduceLT, Nat.reduceLeDiff, Nat.reduceAdd, Nat.reduceMul, Nat.reduceSub, i_lit, eq_self, and_true, true_and, and_self, not_true_eq_false, not_false_eq_true, or_true, true_or, or_false, false_or, false_and, and_false, reduceCtorEq, Nat.add_left_cancel_iff, Nat.add_zero, Nat.zero_add, md_all h, hd]; done))
    | unfold fX5_crash_14
    | fail)
  first | with_reducible rfl | simp (disch := omega) only [b_all, sV_all, ↓reduceIte, Nat.reduceEqDiff, Nat.reduceLT, Nat.reduceLeDiff, Nat.reduceAdd, Nat.reduceMul, Nat.reduceSub, i_lit, eq_self, and_true, true_and, and_self, not_true_eq_false, not_false_eq_true, or_true, true_or, or_false, false_or, false_and, and_false, reduceCtorEq, Nat.add_left_cancel_iff, Nat.add_zero, Nat.zero_add, md_all h, hd]
theorem s_restart53 (hk : 5000 ≤ k) (W : Ab) (hb : Bd W) {s : Nat} (hs : s < 5) : ∀ (n t : Nat) (M : Mm), St x B C (rsF W s t) M → t ≤ W 0 5 → W 0 5 < n + t → ∃ M', fX5_restart_53 x k n (B + 25) (i32 s) (i32 t) M = some ((), M') ∧ St x B C (rsF W s (W 0 5)) M' := by
  have h0 := hb.1
  intro n
  induction n with
  | zero => intro j M _ h1 h2; omega
  | succ n ih =>
    intro t M h ht hn
    have e05 : rsF W s t 0 5 = W 0 5 := rsF_0 _ _ (by omega) _
    have e4 : rsF W s t 4 t = W 4 t := rsF_r _ _ (by omega) _ _
    have e19 : rsF W s t 19 t = W 19 t := rsF_19 _ _ _ (Nat.le_refl _)
    have h4 : W 4 t < 5 := hb.r (by omega) t
    have h19 : W 19 t < 2 := hb.r (by omega) t
    by_cases hc : W 0 5 ≤ t
    · obtain rfl : t = W 0 5 := by omega
      refine ⟨M, ?_, h⟩
      rw [fX5_restart_53]
      repeat (first
        | (with_reducible refine e_l1 ?_)
        | ((with_reducible refine e_k ?_ (mkM h) ?_); focus rfl)
        | ((with_reducible refine e_p ?_ (mp1 h) ?_); focus rfl)
        | ((with_reducible refine e_p ?_ (mp2 h) ?_); focus rfl)
        | ((with_reducible refine e_p ?_ (mp3 h) ?_); focus rfl)
        | ((with_reducible refine e_p ?_ (mp4 h) ?_); focus rfl)
        | ((with_reducible refine e_p ?_ (mp5 h) ?_); focus rfl)
        | ((with_reducible refine e_p ?_ (mp6 h) ?_); focus rfl)
        | ((with_reducible refine e_p ?_ (mp7 h) ?_); focus rfl)
        | ((with_reducible refine e_p ?_ (mp8 h) ?_); focus rfl)
        | ((with_reducible refine e_p ?_ (mp9 h) ?_); focus rfl)
        | ((with_reducible refine e_p ?_ (mp10 h) ?_); focus rfl)
        | ((with_reducible refine e_p ?_ (mp11 h) ?_); focus rfl)
        | ((with_reducible refine e_p ?_ (mp12 h) ?_); focus rfl)
        | ((with_reducible refine e_p ?_ (mp13 h) ?_); focus rfl)
        | ((with_reducible refine e_p ?_ (mp14 h) ?_); focus rfl)
        | ((with_reducible refine e_p ?_ (mp15 h) ?_); focus rfl)
        | ((with_reducible refine e_p ?_ (mp16 h) ?_); focus rfl)
        | ((with_reducible refine e_p ?_ (mp17 h) ?_); focus rfl)
        | ((with_reducible refine e_p ?_ (mp18 h) ?_); focus rfl)
        | ((with_reducible refine e_p ?_ (mp19 h) ?_); focus rfl)
        | ((with_reducible refine e_p ?_ (mp20 h) ?_); focus rfl)
        | ((with_reducible refine e_p ?_ (mp21 h) ?_); focus rfl)
        | ((with_reducible refine e_ip ?_ ?_); focus (simp (disch := omega) only [b_all, sV_all, ↓reduceIte, Nat.reduceEqDiff, Nat.reduceLT, Nat.reduceLeDiff, Nat.reduceAdd, Nat.reduceMul, Nat.reduceSub, i_lit, eq_self, and_true, true_and, and_self, not_true_eq_false, not_false_eq_true, or_true, true_or, or_false, false_or, false_and, and_false, reduceCtorEq, Nat.add_left_cancel_iff, Nat.add_zero, Nat.zero_add, md_all h, e05]; done))
        | ((with_reducible refine e_in ?_ ?_); focus (simp (disch := omega) only [b_all, sV_all, ↓reduceIte, Nat.reduceEqDiff, Nat.reduceLT, Nat.reduceLeDiff, Nat.reduceAdd, Nat.reduceMul, Nat.reduceSub, i_lit, eq_self, and_true, true_and, and_self, not_true_eq_false, not_false_eq_true, or_true, true_or, or_false, false_or, false_and, and_false, reduceCtorEq, Nat.add_left_cancel_iff, Nat.add_zero, Nat.zero_add, md_all h, e05]; done))
        | fail)
      first | with_reducible rfl | simp (disch := omega) only [b_all, sV_all, ↓reduceIte, Nat.reduceEqDiff, Nat.reduceLT, Nat.reduceLeDiff, Nat.reduceAdd, Nat.reduceMul, Nat.reduceSub, i_lit, eq_self, and_true, true_and, and_self, not_true_eq_false, not_false_eq_true, or_true, true_or, or_false, false_or, false_and, and_false, reduceCtorEq, Nat.add_left_cancel_iff, Nat.add_zero, Nat.zero_add, md_all h, e05]
    · by_cases c : W 4 t = s ∧ W 19 t ≠ 0
      · have e0 : rsF W s (t + 1) = wFrees (U (rsF W s t) 19 t 0) t := by rw [rsF, if_pos c]
        obtain ⟨M1, e1, h1⟩ := s_frees (k := k) hk (su19 h t 0) ((bd_rsF hb s t (by omega)).u (by omega) _ (by decide)) (t := t) (by omega)
        obtain ⟨M', e, hM⟩ := ih (t + 1) _ (by rw [e0]; exact h1) (by omega) (by omega)
        refine ⟨M', ?_, hM⟩
        rw [← e, fX5_restart_53]
        repeat (first
          | (with_reducible refine e_l1 ?_)
          | ((with_reducible refine e_k ?_ (mkM h) ?_); focus rfl)
          | ((with_reducible refine e_p ?_ (mp1 h) ?_); focus rfl)
          | ((with_reducible refine e_p ?_ (mp2 h) ?_); focus rfl)
          | ((with_reducible refine e_p ?_ (mp3 h) ?_); focus rfl)
          | ((with_reducible refine e_p ?_ (mp4 h) ?_); focus rfl)
          | ((with_reducible refine e_p ?_ (mp5 h) ?_); focus rfl)
          | ((with_reducible refine e_p ?_ (mp6 h) ?_); focus rfl)
          | ((with_reducible refine e_p ?_ (mp7 h) ?_); focus rfl)
          | ((with_reducible refine e_p ?_ (mp8 h) ?_); focus rfl)
          | ((with_reducible refine e_p ?_ (mp9 h) ?_); focus rfl)
          | ((with_reducible refine e_p ?_ (mp10 h) ?_); focus rfl)
          | ((with_reducible refine e_p ?_ (mp11 h) ?_); focus rfl)
          | ((with_reducible refine e_p ?_ (mp12 h) ?_); focus rfl)
          | ((with_reducible refine e_p ?_ (mp13 h) ?_); focus rfl)
          | ((with_reducible refine e_p ?_ (mp14 h) ?_); focus rfl)
          | ((with_reducible refine e_p ?_ (mp15 h) ?_); focus rfl)
          | ((with_reducible refine e_p ?_ (mp16 h) ?_); focus rfl)
          | ((with_reducible refine e_p ?_ (mp17 h) ?_); focus rfl)
          | ((with_reducible refine e_p ?_ (mp18 h) ?_); focus rfl)
          | ((with_reducible refine e_p ?_ (mp19 h) ?_); focus rfl)
          | ((with_reducible refine e_p ?_ (mp20 h) ?_); focus rfl)
          | ((with_reducible refine e_p ?_ (mp21 h) ?_); focus rfl)
          | ((with_reducible refine e_o2 ?_ e1 ?_); focus (first | with_reducible rfl | (simp (disch := omega) only [b_all, sV_all, ↓reduceIte, Nat.reduceEqDiff, Nat.reduceLT, Nat.reduceLeDiff, Nat.reduceAdd, Nat.reduceMul, Nat.reduceSub, i_lit, eq_self, and_true, true_and, and_self, not_true_eq_false, not_false_eq_true, or_true, true_or, or_false, false_or, false_and, and_false, reduceCtorEq, Nat.add_left_cancel_iff, Nat.add_zero, Nat.zero_add, md_all h, e05, e4, e19]; done)))
          | ((with_reducible refine e_ip ?_ ?_); focus (simp (disch := omega) only [b_all, sV_all, ↓reduceIte, Nat.reduceEqDiff, Nat.reduceLT, Nat.reduceLeDiff, Nat.reduceAdd, Nat.reduceMul, Nat.reduceSub, i_lit, eq_self, and_true, true_and, and_self, not_true_eq_false, not_false_eq_true, or_true, true_or, or_false, false_or, false_and, and_false, reduceCtorEq, Nat.add_left_cancel_iff, Nat.add_zero, Nat.zero_add, md_all h, e05, e4, e19]; done))
          | ((with_reducible refine e_in ?_ ?_); focus (simp (disch := omega) only [b_all, sV_all, ↓reduceIte, Nat.reduceEqDiff, Nat.reduceLT, Nat.reduceLeDiff, Nat.reduceAdd, Nat.reduceMul, Nat.reduceSub, i_lit, eq_self, and_true, true_and, and_self, not_true_eq_false, not_false_eq_true, or_true, true_or, or_false, false_or, false_and, and_false, reduceCtorEq, Nat.add_left_cancel_iff, Nat.add_zero, Nat.zero_add, md_all h, e05, e4, e19]; done))
          | unfold fX5_restart_92
          | fail)
        first | with_reducible rfl | simp (disch := omega) only [b_all, sV_all, ↓reduceIte, Nat.reduceEqDiff, Nat.reduceLT, Nat.reduceLeDiff, Nat.reduceAdd, Nat.reduceMul, Nat.reduceSub, i_lit, eq_self, and_true, true_and, and_self, not_true_eq_false, not_false_eq_true, or_true, true_or, or_false, false_or, false_and, and_false, reduceCtorEq, Nat.add_left_cancel_iff, Nat.add_zero, Nat.zero_add, md_all h, e05, e4, e19]
      · have e0 : rsF W s (t + 1) = rsF W s t := by rw [rsF, if_neg c]
        obtain ⟨M', e, hM⟩ := ih (t + 1) _ (by rw [e0]; exact h) (by omega) (by omega)
        refine ⟨M', ?_, hM⟩
        rw [← e, fX5_restart_53]
        by_cases c1 : W 4 t = s
        · have c2 : W 19 t = 0 := Classical.byContradiction fun z => c ⟨c1, z⟩
          repeat (first
            | (with_reducible refine e_l1 ?_)
            | ((with_reducible refine e_k ?_ (mkM h) ?_); focus rfl)
            | ((with_reducible refine e_p ?_ (mp1 h) ?_); focus rfl)
            | ((with_reducible refine e_p ?_ (mp2 h) ?_); focus rfl)
            | ((with_reducible refine e_p ?_ (mp3 h) ?_); focus rfl)
            | ((with_reducible refine e_p ?_ (mp4 h) ?_); focus rfl)
            | ((with_reducible refine e_p ?_ (mp5 h) ?_); focus rfl)
            | ((with_reducible refine e_p ?_ (mp6 h) ?_); focus rfl)
            | ((with_reducible refine e_p ?_ (mp7 h) ?_); focus rfl)
            | ((with_reducible refine e_p ?_ (mp8 h) ?_); focus rfl)
            | ((with_reducible refine e_p ?_ (mp9 h) ?_); focus rfl)
            | ((with_reducible refine e_p ?_ (mp10 h) ?_); focus rfl)
            | ((with_reducible refine e_p ?_ (mp11 h) ?_); focus rfl)
            | ((with_reducible refine e_p ?_ (mp12 h) ?_); focus rfl)
            | ((with_reducible refine e_p ?_ (mp13 h) ?_); focus rfl)
            | ((with_reducible refine e_p ?_ (mp14 h) ?_); focus rfl)
            | ((with_reducible refine e_p ?_ (mp15 h) ?_); focus rfl)
            | ((with_reducible refine e_p ?_ (mp16 h) ?_); focus rfl)
            | ((with_reducible refine e_p ?_ (mp17 h) ?_); focus rfl)
            | ((with_reducible refine e_p ?_ (mp18 h) ?_); focus rfl)
            | ((with_reducible refine e_p ?_ (mp19 h) ?_); focus rfl)
            | ((with_reducible refine e_p ?_ (mp20 h) ?_); focus rfl)
            | ((with_reducible refine e_p ?_ (mp21 h) ?_); focus rfl)
            | ((with_reducible refine e_ip ?_ ?_); focus (simp (disch := omega) only [b_all, sV_all, ↓reduceIte, Nat.reduceEqDiff, Nat.reduceLT, Nat.reduceLeDiff, Nat.reduceAdd, Nat.reduceMul, Nat.reduceSub, i_lit, eq_self, and_true, true_and, and_self, not_true_eq_false, not_false_eq_true, or_true, true_or, or_false, false_or, false_and, and_false, reduceCtorEq, Nat.add_left_cancel_iff, Nat.add_zero, Nat.zero_add, md_all h, e05, e4, e19]; done))
            | ((with_reducible refine e_in ?_ ?_); focus (simp (disch := omega) only [b_all, sV_all, ↓reduceIte, Nat.reduceEqDiff, Nat.reduceLT, Nat.reduceLeDiff, Nat.reduceAdd, Nat.reduceMul, Nat.reduceSub, i_lit, eq_self, and_true, true_and, and_self, not_true_eq_false, not_false_eq_true, or_true, true_or, or_false, false_or, false_and, and_false, reduceCtorEq, Nat.add_left_cancel_iff, Nat.add_zero, Nat.zero_add, md_all h, e05, e4, e19]; done))
            | unfold fX5_restart_92
            | fail)
          first | with_reducible rfl | simp (disch := omega) only [b_all, sV_all, ↓reduceIte, Nat.reduceEqDiff, Nat.reduceLT, Nat.reduceLeDiff, Nat.reduceAdd, Nat.reduceMul, Nat.reduceSub, i_lit, eq_self, and_true, true_and, and_self, not_true_eq_false, not_false_eq_true, or_true, true_or, or_false, false_or, false_and, and_false, reduceCtorEq, Nat.add_left_cancel_iff, Nat.add_zero, Nat.zero_add, md_all h, e05, e4, e19]
        · repeat (first
            | (with_reducible refine e_l1 ?_)
            | ((with_reducible refine e_k ?_ (mkM h) ?_); focus rfl)
            | ((with_reducible refine e_p ?_ (mp1 h) ?_); focus rfl)
            | ((with_reducible refine e_p ?_ (mp2 h) ?_); focus rfl)
            | ((with_reducible refine e_p ?_ (mp3 h) ?_); focus rfl)
            | ((with_reducible refine e_p ?_ (mp4 h) ?_); focus rfl)
            | ((with_reducible refine e_p ?_ (mp5 h) ?_); focus rfl)
            | ((with_reducible refine e_p ?_ (mp6 h) ?_); focus rfl)
            | ((with_reducible refine e_p ?_ (mp7 h) ?_); focus rfl)
            | ((with_reducible refine e_p ?_ (mp8 h) ?_); focus rfl)
            | ((with_reducible refine e_p ?_ (mp9 h) ?_); focus rfl)
            | ((with_reducible refine e_p ?_ (mp10 h) ?_); focus rfl)
            | ((with_reducible refine e_p ?_ (mp11 h) ?_); focus rfl)
            | ((with_reducible refine e_p ?_ (mp12 h) ?_); focus rfl)
            | ((with_reducible refine e_p ?_ (mp13 h) ?_); focus rfl)
            | ((with_reducible refine e_p ?_ (mp14 h) ?_); focus rfl)
            | ((with_reducible refine e_p ?_ (mp15 h) ?_); focus rfl)
            | ((with_reducible refine e_p ?_ (mp16 h) ?_); focus rfl)
            | ((with_reducible refine e_p ?_ (mp17 h) ?_); focus rfl)
            | ((with_reducible refine e_p ?_ (mp18 h) ?_); focus rfl)
            | ((with_reducible refine e_p ?_ (mp19 h) ?_); focus rfl)
            | ((with_reducible refine e_p ?_ (mp20 h) ?_); focus rfl)
            | ((with_reducible refine e_p ?_ (mp21 h) ?_); focus rfl)
            | ((with_reducible refine e_ip ?_ ?_); focus (simp (disch := omega) only [b_all, sV_all, ↓reduceIte, Nat.reduceEqDiff, Nat.reduceLT, Nat.reduceLeDiff, Nat.reduceAdd, Nat.reduceMul, Nat.reduceSub, i_lit, eq_self, and_true, true_and, and_self, not_true_eq_false, not_false_eq_true, or_true, true_or, or_false, false_or, false_and, and_false, reduceCtorEq, Nat.add_left_cancel_iff, Nat.add_zero, Nat.zero_add, md_all h, e05, e4, e19]; done))
            | ((with_reducible refine e_in ?_ ?_); focus (simp (disch := omega) only [b_all, sV_all, ↓reduceIte, Nat.reduceEqDiff, Nat.reduceLT, Nat.reduceLeDiff, Nat.reduceAdd, Nat.reduceMul, Nat.reduceSub, i_lit, eq_self, and_true, true_and, and_self, not_true_eq_false, not_false_eq_true, or_true, true_or, or_false, false_or, false_and, and_false, reduceCtorEq, Nat.add_left_cancel_iff, Nat.add_zero, Nat.zero_add, md_all h, e05, e4, e19]; done))
            | unfold fX5_restart_92
            | fail)
          first | with_reducible rfl | simp (disch := omega) only [b_all, sV_all, ↓reduceIte, Nat.reduceEqDiff, Nat.reduceLT, Nat.reduceLeDiff, Nat.reduceAdd, Nat.reduceMul, Nat.reduceSub, i_lit, eq_self, and_true, true_and, and_self, not_true_eq_false, not_false_eq_true, or_true, true_or, or_false, false_or, false_and, and_false, reduceCtorEq, Nat.add_left_cancel_iff, Nat.add_zero, Nat.zero_add, md_all h, e05, e4, e19]
theorem m_restart_iae (h : St x B C W M) (hb : Bd W) {s : Nat} (hs' : s < 4294967296) (hs : ¬ s < W 0 0) : fX5_restart x k (B + 25) (i32 s) M = some ((), sV M (B + 25) 27 (i32 1)) := by
  have ei := s_isSite (k := k) h hs' hb.1.2.1
  have f0 := s_fails1 (k := k) h 1
  unfold fX5_restart
  repeat (first
    | (with_reducible refine e_l1 ?_)
    | ((with_reducible refine e_k ?_ (mkM h) ?_); focus rfl)
    | ((with_reducible refine e_p ?_ (mp1 h) ?_); focus rfl)
    | ((with_reducible refine e_p ?_ (mp2 h) ?_); focus rfl)
    | ((with_reducible refine e_p ?_ (mp3 h) ?_); focus rfl)
    | ((with_reducible refine e_p ?_ (mp4 h) ?_); focus rfl)
    | ((with_reducible refine e_p ?_ (mp5 h) ?_); focus rfl)
    | ((with_reducible refine e_p ?_ (mp6 h) ?_); focus rfl)
    | ((with_reducible refine e_p ?_ (mp7 h) ?_); focus rfl)
    | ((with_reducible refine e_p ?_ (mp8 h) ?_); focus rfl)
    | ((with_reducible refine e_p ?_ (mp9 h) ?_); focus rfl)
    | ((with_reducible refine e_p ?_ (mp10 h) ?_); focus rfl)
    | ((with_reducible refine e_p ?_ (mp11 h) ?_); focus rfl)
    | ((with_reducible refine e_p ?_ (mp12 h) ?_); focus rfl)
    | ((with_reducible refine e_p ?_ (mp13 h) ?_); focus rfl)
    | ((with_reducible refine e_p ?_ (mp14 h) ?_); focus rfl)
    | ((with_reducible refine e_p ?_ (mp15 h) ?_); focus rfl)
    | ((with_reducible refine e_p ?_ (mp16 h) ?_); focus rfl)
    | ((with_reducible refine e_p ?_ (mp17 h) ?_); focus rfl)
    | ((with_reducible refine e_p ?_ (mp18 h) ?_); focus rfl)
    | ((with_reducible refine e_p ?_ (mp19 h) ?_); focus rfl)
    | ((with_reducible refine e_p ?_ (mp20 h) ?_); focus rfl)
    | ((with_reducible refine e_p ?_ (mp21 h) ?_); focus rfl)
    | ((with_reducible refine e_o2 ?_ ei ?_); focus (first | with_reducible rfl | (simp (disch := omega) only [b_all, sV_all, ↓reduceIte, Nat.reduceEqDiff, Nat.reduceLT, Nat.reduceLeDiff, Nat.reduceAdd, Nat.reduceMul, Nat.reduceSub, i_lit, eq_self, and_true, true_and, and_self, not_true_eq_false, not_false_eq_true, or_true, true_or, or_false, false_or, false_and, and_false, reduceCtorEq, Nat.add_left_cancel_iff, Nat.add_zero, Nat.zero_add, md_all h]; done)))
    | ((with_reducible refine e_o2 ?_ f0 ?_); focus (first | with_reducible rfl | (simp (disch := omega) only [b_all, sV_all, ↓reduceIte, Nat.reduceEqDiff, Nat.reduceLT, Nat.reduceLeDiff, Nat.reduceAdd, Nat.reduceMul, Nat.reduceSub, i_lit, eq_self, and_true, true_and, and_self, not_true_eq_false, not_false_eq_true, or_true, true_or, or_false, false_or, false_and, and_false, reduceCtorEq, Nat.add_left_cancel_iff, Nat.add_zero, Nat.zero_add, md_all h]; done)))
    | ((with_reducible refine e_ip ?_ ?_); focus (simp (disch := omega) only [b_all, sV_all, ↓reduceIte, Nat.reduceEqDiff, Nat.reduceLT, Nat.reduceLeDiff, Nat.reduceAdd, Nat.reduceMul, Nat.reduceSub, i_lit, eq_self, and_true, true_and, and_self, not_true_eq_false, not_false_eq_true, or_true, true_or, or_false, false_or, false_and, and_false, reduceCtorEq, Nat.add_left_cancel_iff, Nat.add_zero, Nat.zero_add, md_all h]; done))
    | ((with_reducible refine e_in ?_ ?_); focus (simp (disch := omega) only [b_all, sV_all, ↓reduceIte, Nat.reduceEqDiff, Nat.reduceLT, Nat.reduceLeDiff, Nat.reduceAdd, Nat.reduceMul, Nat.reduceSub, i_lit, eq_self, and_true, true_and, and_self, not_true_eq_false, not_false_eq_true, or_true, true_or, or_false, false_or, false_and, and_false, reduceCtorEq, Nat.add_left_cancel_iff, Nat.add_zero, Nat.zero_add, md_all h]; done))
    | unfold fX5_restart_14
    | unfold fX5_restart_43
    | fail)
  first | with_reducible rfl | simp (disch := omega) only [b_all, sV_all, ↓reduceIte, Nat.reduceEqDiff, Nat.reduceLT, Nat.reduceLeDiff, Nat.reduceAdd, Nat.reduceMul, Nat.reduceSub, i_lit, eq_self, and_true, true_and, and_self, not_true_eq_false, not_false_eq_true, or_true, true_or, or_false, false_or, false_and, and_false, reduceCtorEq, Nat.add_left_cancel_iff, Nat.add_zero, Nat.zero_add, md_all h]
theorem m_restart_ise (h : St x B C W M) (hb : Bd W) {s : Nat} (hs : s < W 0 0) (hd : W 2 s = 0) : fX5_restart x k (B + 25) (i32 s) M = some ((), sV (sV M (B + 25) 27 (i32 0)) (B + 25) 27 (i32 2)) := by
  have h0 := hb.1
  have ei := s_isSite (k := k) h (a := s) (by omega) hb.1.2.1
  have f0 := s_fails0 (k := k) h 1
  have f1 := s_fails1 (k := k) (su0 h 27 0) 2
  unfold fX5_restart
  repeat (first
    | (with_reducible refine e_l1 ?_)
    | ((with_reducible refine e_k ?_ (mkM h) ?_); focus rfl)
    | ((with_reducible refine e_p ?_ (mp1 h) ?_); focus rfl)
    | ((with_reducible refine e_p ?_ (mp2 h) ?_); focus rfl)
    | ((with_reducible refine e_p ?_ (mp3 h) ?_); focus rfl)
    | ((with_reducible refine e_p ?_ (mp4 h) ?_); focus rfl)
    | ((with_reducible refine e_p ?_ (mp5 h) ?_); focus rfl)
    | ((with_reducible refine e_p ?_ (mp6 h) ?_); focus rfl)
    | ((with_reducible refine e_p ?_ (mp7 h) ?_); focus rfl)
    | ((with_reducible refine e_p ?_ (mp8 h) ?_); focus rfl)
    | ((with_reducible refine e_p ?_ (mp9 h) ?_); focus rfl)
    | ((with_reducible refine e_p ?_ (mp10 h) ?_); focus rfl)
    | ((with_reducible refine e_p ?_ (mp11 h) ?_); focus rfl)
    | ((with_reducible refine e_p ?_ (mp12 h) ?_); focus rfl)
    | ((with_reducible refine e_p ?_ (mp13 h) ?_); focus rfl)
    | ((with_reducible refine e_p ?_ (mp14 h) ?_); focus rfl)
    | ((with_reducible refine e_p ?_ (mp15 h) ?_); focus rfl)
    | ((with_reducible refine e_p ?_ (mp16 h) ?_); focus rfl)
    | ((with_reducible refine e_p ?_ (mp17 h) ?_); focus rfl)
    | ((with_reducible refine e_p ?_ (mp18 h) ?_); focus rfl)
    | ((with_reducible refine e_p ?_ (mp19 h) ?_); focus rfl)
    | ((with_reducible refine e_p ?_ (mp20 h) ?_); focus rfl)
    | ((with_reducible refine e_p ?_ (mp21 h) ?_); focus rfl)
    | ((with_reducible refine e_o2 ?_ ei ?_); focus (first | with_reducible rfl | (simp (disch := omega) only [b_all, sV_all, ↓reduceIte, Nat.reduceEqDiff, Nat.reduceLT, Nat.reduceLeDiff, Nat.reduceAdd, Nat.reduceMul, Nat.reduceSub, i_lit, eq_self, and_true, true_and, and_self, not_true_eq_false, not_false_eq_true, or_true, true_or, or_false, false_or, false_and, and_false, reduceCtorEq, Nat.add_left_cancel_iff, Nat.add_zero, Nat.zero_add, md_all h, hd]; done)))
    | ((with_reducible refine e_o2 ?_ f0 ?_); focus (first | with_reducible rfl | (simp (disch := omega) only [b_all, sV_all, ↓reduceIte, Nat.reduceEqDiff, Nat.reduceLT, Nat.reduceLeDiff, Nat.reduceAdd, Nat.reduceMul, Nat.reduceSub, i_lit, eq_self, and_true, true_and, and_self, not_true_eq_false, not_false_eq_true, or_true, true_or, or_false, false_or, false_and, and_false, reduceCtorEq, Nat.add_left_cancel_iff, Nat.add_zero, Nat.zero_add, md_all h, hd]; done)))
    | ((with_reducible refine e_o2 ?_ f1 ?_); focus (first | with_reducible rfl | (simp (disch := omega) only [b_all, sV_all, ↓reduceIte, Nat.reduceEqDiff, Nat.reduceLT, Nat.reduceLeDiff, Nat.reduceAdd, Nat.reduceMul, Nat.reduceSub, i_lit, eq_self, and_true, true_and, and_self, not_true_eq_false, not_false_eq_true, or_true, true_or, or_false, false_or, false_and, and_false, reduceCtorEq, Nat.add_left_cancel_iff, Nat.add_zero, Nat.zero_add, md_all h, hd]; done)))
    | ((with_reducible refine e_ip ?_ ?_); focus (simp (disch := omega) only [b_all, sV_all, ↓reduceIte, Nat.reduceEqDiff, Nat.reduceLT, Nat.reduceLeDiff, Nat.reduceAdd, Nat.reduceMul, Nat.reduceSub, i_lit, eq_self, and_true, true_and, and_self, not_true_eq_false, not_false_eq_true, or_true, true_or, or_false, false_or, false_and, and_false, reduceCtorEq, Nat.add_left_cancel_iff, Nat.add_zero, Nat.zero_add, md_all h, hd]; done))
    | ((with_reducible refine e_in ?_ ?_); focus (simp (disch := omega) only [b_all, sV_all, ↓reduceIte, Nat.reduceEqDiff, Nat.reduceLT, Nat.reduceLeDiff, Nat.reduceAdd, Nat.reduceMul, Nat.reduceSub, i_lit, eq_self, and_true, true_and, and_self, not_true_eq_false, not_false_eq_true, or_true, true_or, or_false, false_or, false_and, and_false, reduceCtorEq, Nat.add_left_cancel_iff, Nat.add_zero, Nat.zero_add, md_all h, hd]; done))
    | unfold fX5_restart_14
    | unfold fX5_restart_36
    | unfold fX5_restart_43
    | fail)
  first | with_reducible rfl | simp (disch := omega) only [b_all, sV_all, ↓reduceIte, Nat.reduceEqDiff, Nat.reduceLT, Nat.reduceLeDiff, Nat.reduceAdd, Nat.reduceMul, Nat.reduceSub, i_lit, eq_self, and_true, true_and, and_self, not_true_eq_false, not_false_eq_true, or_true, true_or, or_false, false_or, false_and, and_false, reduceCtorEq, Nat.add_left_cancel_iff, Nat.add_zero, Nat.zero_add, md_all h, hd]
theorem m_restart_ok (hk : 5000 ≤ k) (h : St x B C W M) (hb : Bd W) {s : Nat} (hs : s < W 0 0) (hd : W 2 s ≠ 0) : ∃ M', fX5_restart x k (B + 25) (i32 s) M = some ((), M') ∧ St x B C (wRestart W s) M' := by
  have h0 := hb.1
  have h2 : W 2 s < 2 := hb.r (by omega) s
  have e2 : W 2 s = 1 := by omega
  have ei := s_isSite (k := k) h (a := s) (by omega) hb.1.2.1
  have f0 := s_fails0 (k := k) h 1
  have f1 := s_fails0 (k := k) (su0 h 27 0) 2
  have h5 : U (t00 W) 2 s 0 0 5 = W 0 5 := rfl
  obtain ⟨M', e, h1⟩ := s_restart53 (k := k) hk (U (t00 W) 2 s 0) (hb.t00.u (by omega) _ (by decide)) (s := s) (by omega) k 0 _ (show St x B C (U (t00 W) 2 s 0) _ from su2 (su0 (su0 h 27 0) 27 0) s 0) (by omega) (by omega)
  refine ⟨M', ?_, h1⟩
  rw [← e]
  unfold fX5_restart
  repeat (first
    | (with_reducible refine e_l1 ?_)
    | ((with_reducible refine e_k ?_ (mkM h) ?_); focus rfl)
    | ((with_reducible refine e_p ?_ (mp1 h) ?_); focus rfl)
    | ((with_reducible refine e_p ?_ (mp2 h) ?_); focus rfl)
    | ((with_reducible refine e_p ?_ (mp3 h) ?_); focus rfl)
    | ((with_reducible refine e_p ?_ (mp4 h) ?_); focus rfl)
    | ((with_reducible refine e_p ?_ (mp5 h) ?_); focus rfl)
    | ((with_reducible refine e_p ?_ (mp6 h) ?_); focus rfl)
    | ((with_reducible refine e_p ?_ (mp7 h) ?_); focus rfl)
    | ((with_reducible refine e_p ?_ (mp8 h) ?_); focus rfl)
    | ((with_reducible refine e_p ?_ (mp9 h) ?_); focus rfl)
    | ((with_reducible refine e_p ?_ (mp10 h) ?_); focus rfl)
    | ((with_reducible refine e_p ?_ (mp11 h) ?_); focus rfl)
    | ((with_reducible refine e_p ?_ (mp12 h) ?_); focus rfl)
    | ((with_reducible refine e_p ?_ (mp13 h) ?_); focus rfl)
    | ((with_reducible refine e_p ?_ (mp14 h) ?_); focus rfl)
    | ((with_reducible refine e_p ?_ (mp15 h) ?_); focus rfl)
    | ((with_reducible refine e_p ?_ (mp16 h) ?_); focus rfl)
    | ((with_reducible refine e_p ?_ (mp17 h) ?_); focus rfl)
    | ((with_reducible refine e_p ?_ (mp18 h) ?_); focus rfl)
    | ((with_reducible refine e_p ?_ (mp19 h) ?_); focus rfl)
    | ((with_reducible refine e_p ?_ (mp20 h) ?_); focus rfl)
    | ((with_reducible refine e_p ?_ (mp21 h) ?_); focus rfl)
    | ((with_reducible refine e_o2 ?_ ei ?_); focus (first | with_reducible rfl | (simp (disch := omega) only [b_all, sV_all, ↓reduceIte, Nat.reduceEqDiff, Nat.reduceLT, Nat.reduceLeDiff, Nat.reduceAdd, Nat.reduceMul, Nat.reduceSub, i_lit, eq_self, and_true, true_and, and_self, not_true_eq_false, not_false_eq_true, or_true, true_or, or_false, false_or, false_and, and_false, reduceCtorEq, Nat.add_left_cancel_iff, Nat.add_zero, Nat.zero_add, md_all h, e2]; done)))
    | ((with_reducible refine e_o2 ?_ f0 ?_); focus (first | with_reducible rfl | (simp (disch := omega) only [b_all, sV_all, ↓reduceIte, Nat.reduceEqDiff, Nat.reduceLT, Nat.reduceLeDiff, Nat.reduceAdd, Nat.reduceMul, Nat.reduceSub, i_lit, eq_self, and_true, true_and, and_self, not_true_eq_false, not_false_eq_true, or_true, true_or, or_false, false_or, false_and, and_false, reduceCtorEq, Nat.add_left_cancel_iff, Nat.add_zero, Nat.zero_add, md_all h, e2]; done)))
    | ((with_reducible refine e_o2 ?_ f1 ?_); focus (first | with_reducible rfl | (simp (disch := omega) only [b_all, sV_all, ↓reduceIte, Nat.reduceEqDiff, Nat.reduceLT, Nat.reduceLeDiff, Nat.reduceAdd, Nat.reduceMul, Nat.reduceSub, i_lit, eq_self, and_true, true_and, and_self, not_true_eq_false, not_false_eq_true, or_true, true_or, or_false, false_or, false_and, and_false, reduceCtorEq, Nat.add_left_cancel_iff, Nat.add_zero, Nat.zero_add, md_all h, e2]; done)))
    | ((with_reducible refine e_ip ?_ ?_); focus (simp (disch := omega) only [b_all, sV_all, ↓reduceIte, Nat.reduceEqDiff, Nat.reduceLT, Nat.reduceLeDiff, Nat.reduceAdd, Nat.reduceMul, Nat.reduceSub, i_lit, eq_self, and_true, true_and, and_self, not_true_eq_false, not_false_eq_true, or_true, true_or, or_false, false_or, false_and, and_false, reduceCtorEq, Nat.add_left_cancel_iff, Nat.add_zero, Nat.zero_add, md_all h, e2]; done))
    | ((with_reducible refine e_in ?_ ?_); focus (simp (disch := omega) only [b_all, sV_all, ↓reduceIte, Nat.reduceEqDiff, Nat.reduceLT, Nat.reduceLeDiff, Nat.reduceAdd, Nat.reduceMul, Nat.reduceSub, i_lit, eq_self, and_true, true_and, and_self, not_true_eq_false, not_false_eq_true, or_true, true_or, or_false, false_or, false_and, and_false, reduceCtorEq, Nat.add_left_cancel_iff, Nat.add_zero, Nat.zero_add, md_all h, e2]; done))
    | unfold fX5_restart_14
    | unfold fX5_restart_36
    | fail)
  first | with_reducible rfl | simp (disch := omega) only [b_all, sV_all, ↓reduceIte, Nat.reduceEqDiff, Nat.reduceLT, Nat.reduceLeDiff, Nat.reduceAdd, Nat.reduceMul, Nat.reduceSub, i_lit, eq_self, and_true, true_and, and_self, not_true_eq_false, not_false_eq_true, or_true, true_or, or_false, false_or, false_and, and_false, reduceCtorEq, Nat.add_left_cancel_iff, Nat.add_zero, Nat.zero_add, md_all h, e2]
/-- about, vector, value, locked, total -/
theorem m_vector_iae (h : St x B C W M) (hb : Bd W) {s o : Nat} (hs' : s < 4294967296) (ho' : o < 4294967296) (hn : ¬ (s < W 0 0 ∧ o < W 0 0)) : fX5_vector x k (B + 25) (i32 s) (i32 o) M = some (i32 0, sV M (B + 25) 27 (i32 1)) := by
  have ei := s_isSite (k := k) h hs' hb.1.2.1
  have ej := s_isSite (k := k) h ho' hb.1.2.1
  have f0 := s_fails1 (k := k) h 1
  unfold fX5_vector
  by_cases c : s < W 0 0
  · repeat (first
      | (with_reducible refine e_l1 ?_)
      | ((with_reducible refine e_k ?_ (mkM h) ?_); focus rfl)
      | ((with_reducible refine e_p ?_ (mp1 h) ?_); focus rfl)
      | ((with_reducible refine e_p ?_ (mp2 h) ?_); focus rfl)
      | ((with_reducible refine e_p ?_ (mp3 h) ?_); focus rfl)
      | ((with_reducible refine e_p ?_ (mp4 h) ?_); focus rfl)
      | ((with_reducible refine e_p ?_ (mp5 h) ?_); focus rfl)
      | ((with_reducible refine e_p ?_ (mp6 h) ?_); focus rfl)
      | ((with_reducible refine e_p ?_ (mp7 h) ?_); focus rfl)
      | ((with_reducible refine e_p ?_ (mp8 h) ?_); focus rfl)
      | ((with_reducible refine e_p ?_ (mp9 h) ?_); focus rfl)
      | ((with_reducible refine e_p ?_ (mp10 h) ?_); focus rfl)
      | ((with_reducible refine e_p ?_ (mp11 h) ?_); focus rfl)
      | ((with_reducible refine e_p ?_ (mp12 h) ?_); focus rfl)
      | ((with_reducible refine e_p ?_ (mp13 h) ?_); focus rfl)
      | ((with_reducible refine e_p ?_ (mp14 h) ?_); focus rfl)
      | ((with_reducible refine e_p ?_ (mp15 h) ?_); focus rfl)
      | ((with_reducible refine e_p ?_ (mp16 h) ?_); focus rfl)
      | ((with_reducible refine e_p ?_ (mp17 h) ?_); focus rfl)
      | ((with_reducible refine e_p ?_ (mp18 h) ?_); focus rfl)
      | ((with_reducible refine e_p ?_ (mp19 h) ?_); focus rfl)
      | ((with_reducible refine e_p ?_ (mp20 h) ?_); focus rfl)
      | ((with_reducible refine e_p ?_ (mp21 h) ?_); focus rfl)
      | ((with_reducible refine e_o2 ?_ ei ?_); focus (first | with_reducible rfl | (simp (disch := omega) only [b_all, sV_all, ↓reduceIte, Nat.reduceEqDiff, Nat.reduceLT, Nat.reduceLeDiff, Nat.reduceAdd, Nat.reduceMul, Nat.reduceSub, i_lit, eq_self, and_true, true_and, and_self, not_true_eq_false, not_false_eq_true, or_true, true_or, or_false, false_or, false_and, and_false, reduceCtorEq, Nat.add_left_cancel_iff, Nat.add_zero, Nat.zero_add, md_all h]; done)))
      | ((with_reducible refine e_o2 ?_ ej ?_); focus (first | with_reducible rfl | (simp (disch := omega) only [b_all, sV_all, ↓reduceIte, Nat.reduceEqDiff, Nat.reduceLT, Nat.reduceLeDiff, Nat.reduceAdd, Nat.reduceMul, Nat.reduceSub, i_lit, eq_self, and_true, true_and, and_self, not_true_eq_false, not_false_eq_true, or_true, true_or, or_false, false_or, false_and, and_false, reduceCtorEq, Nat.add_left_cancel_iff, Nat.add_zero, Nat.zero_add, md_all h]; done)))
      | ((with_reducible refine e_o2 ?_ f0 ?_); focus (first | with_reducible rfl | (simp (disch := omega) only [b_all, sV_all, ↓reduceIte, Nat.reduceEqDiff, Nat.reduceLT, Nat.reduceLeDiff, Nat.reduceAdd, Nat.reduceMul, Nat.reduceSub, i_lit, eq_self, and_true, true_and, and_self, not_true_eq_false, not_false_eq_true, or_true, true_or, or_false, false_or, false_and, and_false, reduceCtorEq, Nat.add_left_cancel_iff, Nat.add_zero, Nat.zero_add, md_all h]; done)))
      | ((with_reducible refine e_ip ?_ ?_); focus (simp (disch := omega) only [b_all, sV_all, ↓reduceIte, Nat.reduceEqDiff, Nat.reduceLT, Nat.reduceLeDiff, Nat.reduceAdd, Nat.reduceMul, Nat.reduceSub, i_lit, eq_self, and_true, true_and, and_self, not_true_eq_false, not_false_eq_true, or_true, true_or, or_false, false_or, false_and, and_false, reduceCtorEq, Nat.add_left_cancel_iff, Nat.add_zero, Nat.zero_add, md_all h]; done))
      | ((with_reducible refine e_in ?_ ?_); focus (simp (disch := omega) only [b_all, sV_all, ↓reduceIte, Nat.reduceEqDiff, Nat.reduceLT, Nat.reduceLeDiff, Nat.reduceAdd, Nat.reduceMul, Nat.reduceSub, i_lit, eq_self, and_true, true_and, and_self, not_true_eq_false, not_false_eq_true, or_true, true_or, or_false, false_or, false_and, and_false, reduceCtorEq, Nat.add_left_cancel_iff, Nat.add_zero, Nat.zero_add, md_all h]; done))
      | unfold fX5_vector_17
      | unfold fX5_vector_22
      | unfold fX5_vector_43
      | fail)
    first | with_reducible rfl | simp (disch := omega) only [b_all, sV_all, ↓reduceIte, Nat.reduceEqDiff, Nat.reduceLT, Nat.reduceLeDiff, Nat.reduceAdd, Nat.reduceMul, Nat.reduceSub, i_lit, eq_self, and_true, true_and, and_self, not_true_eq_false, not_false_eq_true, or_true, true_or, or_false, false_or, false_and, and_false, reduceCtorEq, Nat.add_left_cancel_iff, Nat.add_zero, Nat.zero_add, md_all h]
  · repeat (first
      | (with_reducible refine e_l1 ?_)
      | ((with_reducible refine e_k ?_ (mkM h) ?_); focus rfl)
      | ((with_reducible refine e_p ?_ (mp1 h) ?_); focus rfl)
      | ((with_reducible refine e_p ?_ (mp2 h) ?_); focus rfl)
      | ((with_reducible refine e_p ?_ (mp3 h) ?_); focus rfl)
      | ((with_reducible refine e_p ?_ (mp4 h) ?_); focus rfl)
      | ((with_reducible refine e_p ?_ (mp5 h) ?_); focus rfl)
      | ((with_reducible refine e_p ?_ (mp6 h) ?_); focus rfl)
      | ((with_reducible refine e_p ?_ (mp7 h) ?_); focus rfl)
      | ((with_reducible refine e_p ?_ (mp8 h) ?_); focus rfl)
      | ((with_reducible refine e_p ?_ (mp9 h) ?_); focus rfl)
      | ((with_reducible refine e_p ?_ (mp10 h) ?_); focus rfl)
      | ((with_reducible refine e_p ?_ (mp11 h) ?_); focus rfl)
      | ((with_reducible refine e_p ?_ (mp12 h) ?_); focus rfl)
      | ((with_reducible refine e_p ?_ (mp13 h) ?_); focus rfl)
      | ((with_reducible refine e_p ?_ (mp14 h) ?_); focus rfl)
      | ((with_reducible refine e_p ?_ (mp15 h) ?_); focus rfl)
      | ((with_reducible refine e_p ?_ (mp16 h) ?_); focus rfl)
      | ((with_reducible refine e_p ?_ (mp17 h) ?_); focus rfl)
      | ((with_reducible refine e_p ?_ (mp18 h) ?_); focus rfl)
      | ((with_reducible refine e_p ?_ (mp19 h) ?_); focus rfl)
      | ((with_reducible refine e_p ?_ (mp20 h) ?_); focus rfl)
      | ((with_reducible refine e_p ?_ (mp21 h) ?_); focus rfl)
      | ((with_reducible refine e_o2 ?_ ei ?_); focus (first | with_reducible rfl | (simp (disch := omega) only [b_all, sV_all, ↓reduceIte, Nat.reduceEqDiff, Nat.reduceLT, Nat.reduceLeDiff, Nat.reduceAdd, Nat.reduceMul, Nat.reduceSub, i_lit, eq_self, and_true, true_and, and_self, not_true_eq_false, not_false_eq_true, or_true, true_or, or_false, false_or, false_and, and_false, reduceCtorEq, Nat.add_left_cancel_iff, Nat.add_zero, Nat.zero_add, md_all h]; done)))
      | ((with_reducible refine e_o2 ?_ ej ?_); focus (first | with_reducible rfl | (simp (disch := omega) only [b_all, sV_all, ↓reduceIte, Nat.reduceEqDiff, Nat.reduceLT, Nat.reduceLeDiff, Nat.reduceAdd, Nat.reduceMul, Nat.reduceSub, i_lit, eq_self, and_true, true_and, and_self, not_true_eq_false, not_false_eq_true, or_true, true_or, or_false, false_or, false_and, and_false, reduceCtorEq, Nat.add_left_cancel_iff, Nat.add_zero, Nat.zero_add, md_all h]; done)))
      | ((with_reducible refine e_o2 ?_ f0 ?_); focus (first | with_reducible rfl | (simp (disch := omega) only [b_all, sV_all, ↓reduceIte, Nat.reduceEqDiff, Nat.reduceLT, Nat.reduceLeDiff, Nat.reduceAdd, Nat.reduceMul, Nat.reduceSub, i_lit, eq_self, and_true, true_and, and_self, not_true_eq_false, not_false_eq_true, or_true, true_or, or_false, false_or, false_and, and_false, reduceCtorEq, Nat.add_left_cancel_iff, Nat.add_zero, Nat.zero_add, md_all h]; done)))
      | ((with_reducible refine e_ip ?_ ?_); focus (simp (disch := omega) only [b_all, sV_all, ↓reduceIte, Nat.reduceEqDiff, Nat.reduceLT, Nat.reduceLeDiff, Nat.reduceAdd, Nat.reduceMul, Nat.reduceSub, i_lit, eq_self, and_true, true_and, and_self, not_true_eq_false, not_false_eq_true, or_true, true_or, or_false, false_or, false_and, and_false, reduceCtorEq, Nat.add_left_cancel_iff, Nat.add_zero, Nat.zero_add, md_all h]; done))
      | ((with_reducible refine e_in ?_ ?_); focus (simp (disch := omega) only [b_all, sV_all, ↓reduceIte, Nat.reduceEqDiff, Nat.reduceLT, Nat.reduceLeDiff, Nat.reduceAdd, Nat.reduceMul, Nat.reduceSub, i_lit, eq_self, and_true, true_and, and_self, not_true_eq_false, not_false_eq_true, or_true, true_or, or_false, false_or, false_and, and_false, reduceCtorEq, Nat.add_left_cancel_iff, Nat.add_zero, Nat.zero_add, md_all h]; done))
      | unfold fX5_vector_17
      | unfold fX5_vector_22
      | unfold fX5_vector_43
      | fail)
    first | with_reducible rfl | simp (disch := omega) only [b_all, sV_all, ↓reduceIte, Nat.reduceEqDiff, Nat.reduceLT, Nat.reduceLeDiff, Nat.reduceAdd, Nat.reduceMul, Nat.reduceSub, i_lit, eq_self, and_true, true_and, and_self, not_true_eq_false, not_false_eq_true, or_true, true_or, or_false, false_or, false_and, and_false, reduceCtorEq, Nat.add_left_cancel_iff, Nat.add_zero, Nat.zero_add, md_all h]
theorem m_vector_ok (h : St x B C W M) (hb : Bd W) {s o : Nat} (hs : s < W 0 0) (ho : o < W 0 0) : ∃ M', fX5_vector x k (B + 25) (i32 s) (i32 o) M = some (i32 (W 1 (5 * s + o)), M') ∧ St x B C (t0 W) M' := by
  have h0 := hb.1
  have ei := s_isSite (k := k) h (a := s) (by omega) hb.1.2.1
  have ej := s_isSite (k := k) h (a := o) (by omega) hb.1.2.1
  have f0 := s_fails0 (k := k) h 1
  refine ⟨_, ?_, show St x B C (t0 W) _ from su0 h 27 0⟩
  unfold fX5_vector
  repeat (first
    | (with_reducible refine e_l1 ?_)
    | ((with_reducible refine e_k ?_ (mkM h) ?_); focus rfl)
    | ((with_reducible refine e_p ?_ (mp1 h) ?_); focus rfl)
    | ((with_reducible refine e_p ?_ (mp2 h) ?_); focus rfl)
    | ((with_reducible refine e_p ?_ (mp3 h) ?_); focus rfl)
    | ((with_reducible refine e_p ?_ (mp4 h) ?_); focus rfl)
    | ((with_reducible refine e_p ?_ (mp5 h) ?_); focus rfl)
    | ((with_reducible refine e_p ?_ (mp6 h) ?_); focus rfl)
    | ((with_reducible refine e_p ?_ (mp7 h) ?_); focus rfl)
    | ((with_reducible refine e_p ?_ (mp8 h) ?_); focus rfl)
    | ((with_reducible refine e_p ?_ (mp9 h) ?_); focus rfl)
    | ((with_reducible refine e_p ?_ (mp10 h) ?_); focus rfl)
    | ((with_reducible refine e_p ?_ (mp11 h) ?_); focus rfl)
    | ((with_reducible refine e_p ?_ (mp12 h) ?_); focus rfl)
    | ((with_reducible refine e_p ?_ (mp13 h) ?_); focus rfl)
    | ((with_reducible refine e_p ?_ (mp14 h) ?_); focus rfl)
    | ((with_reducible refine e_p ?_ (mp15 h) ?_); focus rfl)
    | ((with_reducible refine e_p ?_ (mp16 h) ?_); focus rfl)
    | ((with_reducible refine e_p ?_ (mp17 h) ?_); focus rfl)
    | ((with_reducible refine e_p ?_ (mp18 h) ?_); focus rfl)
    | ((with_reducible refine e_p ?_ (mp19 h) ?_); focus rfl)
    | ((with_reducible refine e_p ?_ (mp20 h) ?_); focus rfl)
    | ((with_reducible refine e_p ?_ (mp21 h) ?_); focus rfl)
    | ((with_reducible refine e_o2 ?_ ei ?_); focus (first | with_reducible rfl | (simp (disch := omega) only [b_all, sV_all, ↓reduceIte, Nat.reduceEqDiff, Nat.reduceLT, Nat.reduceLeDiff, Nat.reduceAdd, Nat.reduceMul, Nat.reduceSub, i_lit, eq_self, and_true, true_and, and_self, not_true_eq_false, not_false_eq_true, or_true, true_or, or_false, false_or, false_and, and_false, reduceCtorEq, Nat.add_left_cancel_iff, Nat.add_zero, Nat.zero_add, md_all h]; done)))
    | ((with_reducible refine e_o2 ?_ ej ?_); focus (first | with_reducible rfl | (simp (disch := omega) only [b_all, sV_all, ↓reduceIte, Nat.reduceEqDiff, Nat.reduceLT, Nat.reduceLeDiff, Nat.reduceAdd, Nat.reduceMul, Nat.reduceSub, i_lit, eq_self, and_true, true_and, and_self, not_true_eq_false, not_false_eq_true, or_true, true_or, or_false, false_or, false_and, and_false, reduceCtorEq, Nat.add_left_cancel_iff, Nat.add_zero, Nat.zero_add, md_all h]; done)))
    | ((with_reducible refine e_o2 ?_ f0 ?_); focus (first | with_reducible rfl | (simp (disch := omega) only [b_all, sV_all, ↓reduceIte, Nat.reduceEqDiff, Nat.reduceLT, Nat.reduceLeDiff, Nat.reduceAdd, Nat.reduceMul, Nat.reduceSub, i_lit, eq_self, and_true, true_and, and_self, not_true_eq_false, not_false_eq_true, or_true, true_or, or_false, false_or, false_and, and_false, reduceCtorEq, Nat.add_left_cancel_iff, Nat.add_zero, Nat.zero_add, md_all h]; done)))
    | ((with_reducible refine e_ip ?_ ?_); focus (simp (disch := omega) only [b_all, sV_all, ↓reduceIte, Nat.reduceEqDiff, Nat.reduceLT, Nat.reduceLeDiff, Nat.reduceAdd, Nat.reduceMul, Nat.reduceSub, i_lit, eq_self, and_true, true_and, and_self, not_true_eq_false, not_false_eq_true, or_true, true_or, or_false, false_or, false_and, and_false, reduceCtorEq, Nat.add_left_cancel_iff, Nat.add_zero, Nat.zero_add, md_all h]; done))
    | ((with_reducible refine e_in ?_ ?_); focus (simp (disch := omega) only [b_all, sV_all, ↓reduceIte, Nat.reduceEqDiff, Nat.reduceLT, Nat.reduceLeDiff, Nat.reduceAdd, Nat.reduceMul, Nat.reduceSub, i_lit, eq_self, and_true, true_and, and_self, not_true_eq_false, not_false_eq_true, or_true, true_or, or_false, false_or, false_and, and_false, reduceCtorEq, Nat.add_left_cancel_iff, Nat.add_zero, Nat.zero_add, md_all h]; done))
    | unfold fX5_vector_22
    | unfold fX5_vector_43
    | fail)
  first | with_reducible rfl | simp (disch := omega) only [b_all, sV_all, ↓reduceIte, Nat.reduceEqDiff, Nat.reduceLT, Nat.reduceLeDiff, Nat.reduceAdd, Nat.reduceMul, Nat.reduceSub, i_lit, eq_self, and_true, true_and, and_self, not_true_eq_false, not_false_eq_true, or_true, true_or, or_false, false_or, false_and, and_false, reduceCtorEq, Nat.add_left_cancel_iff, Nat.add_zero, Nat.zero_add, md_all h]
theorem m_value_iae (h : St x B C W M) (hb : Bd W) {s o : Nat} (hs' : s < 4294967296) (ho' : o < 4294967296) (hn : ¬ (s < W 0 0 ∧ o < 20)) : fX5_value x k (B + 25) (i32 s) (i32 o) M = some (i32 0, sV M (B + 25) 27 (i32 1)) := by
  have ei := s_isSite (k := k) h hs' hb.1.2.1
  have ej := s_isObject (k := k) (x := x) (M := M) ho'
  have f0 := s_fails1 (k := k) h 1
  unfold fX5_value
  by_cases c : s < W 0 0
  · repeat (first
      | (with_reducible refine e_l1 ?_)
      | ((with_reducible refine e_k ?_ (mkM h) ?_); focus rfl)
      | ((with_reducible refine e_p ?_ (mp1 h) ?_); focus rfl)
      | ((with_reducible refine e_p ?_ (mp2 h) ?_); focus rfl)
      | ((with_reducible refine e_p ?_ (mp3 h) ?_); focus rfl)
      | ((with_reducible refine e_p ?_ (mp4 h) ?_); focus rfl)
      | ((with_reducible refine e_p ?_ (mp5 h) ?_); focus rfl)
      | ((with_reducible refine e_p ?_ (mp6 h) ?_); focus rfl)
      | ((with_reducible refine e_p ?_ (mp7 h) ?_); focus rfl)
      | ((with_reducible refine e_p ?_ (mp8 h) ?_); focus rfl)
      | ((with_reducible refine e_p ?_ (mp9 h) ?_); focus rfl)
      | ((with_reducible refine e_p ?_ (mp10 h) ?_); focus rfl)
      | ((with_reducible refine e_p ?_ (mp11 h) ?_); focus rfl)
      | ((with_reducible refine e_p ?_ (mp12 h) ?_); focus rfl)
      | ((with_reducible refine e_p ?_ (mp13 h) ?_); focus rfl)
      | ((with_reducible refine e_p ?_ (mp14 h) ?_); focus rfl)
      | ((with_reducible refine e_p ?_ (mp15 h) ?_); focus rfl)
      | ((with_reducible refine e_p ?_ (mp16 h) ?_); focus rfl)
      | ((with_reducible refine e_p ?_ (mp17 h) ?_); focus rfl)
      | ((with_reducible refine e_p ?_ (mp18 h) ?_); focus rfl)
      | ((with_reducible refine e_p ?_ (mp19 h) ?_); focus rfl)
      | ((with_reducible refine e_p ?_ (mp20 h) ?_); focus rfl)
      | ((with_reducible refine e_p ?_ (mp21 h) ?_); focus rfl)
      | ((with_reducible refine e_o2 ?_ ei ?_); focus (first | with_reducible rfl | (simp (disch := omega) only [b_all, sV_all, ↓reduceIte, Nat.reduceEqDiff, Nat.reduceLT, Nat.reduceLeDiff, Nat.reduceAdd, Nat.reduceMul, Nat.reduceSub, i_lit, eq_self, and_true, true_and, and_self, not_true_eq_false, not_false_eq_true, or_true, true_or, or_false, false_or, false_and, and_false, reduceCtorEq, Nat.add_left_cancel_iff, Nat.add_zero, Nat.zero_add, md_all h]; done)))
      | ((with_reducible refine e_o2 ?_ ej ?_); focus (first | with_reducible rfl | (simp (disch := omega) only [b_all, sV_all, ↓reduceIte, Nat.reduceEqDiff, Nat.reduceLT, Nat.reduceLeDiff, Nat.reduceAdd, Nat.reduceMul, Nat.reduceSub, i_lit, eq_self, and_true, true_and, and_self, not_true_eq_false, not_false_eq_true, or_true, true_or, or_false, false_or, false_and, and_false, reduceCtorEq, Nat.add_left_cancel_iff, Nat.add_zero, Nat.zero_add, md_all h]; done)))
      | ((with_reducible refine e_o2 ?_ f0 ?_); focus (first | with_reducible rfl | (simp (disch := omega) only [b_all, sV_all, ↓reduceIte, Nat.reduceEqDiff, Nat.reduceLT, Nat.reduceLeDiff, Nat.reduceAdd, Nat.reduceMul, Nat.reduceSub, i_lit, eq_self, and_true, true_and, and_self, not_true_eq_false, not_false_eq_true, or_true, true_or, or_false, false_or, false_and, and_false, reduceCtorEq, Nat.add_left_cancel_iff, Nat.add_zero, Nat.zero_add, md_all h]; done)))
      | ((with_reducible refine e_ip ?_ ?_); focus (simp (disch := omega) only [b_all, sV_all, ↓reduceIte, Nat.reduceEqDiff, Nat.reduceLT, Nat.reduceLeDiff, Nat.reduceAdd, Nat.reduceMul, Nat.reduceSub, i_lit, eq_self, and_true, true_and, and_self, not_true_eq_false, not_false_eq_true, or_true, true_or, or_false, false_or, false_and, and_false, reduceCtorEq, Nat.add_left_cancel_iff, Nat.add_zero, Nat.zero_add, md_all h]; done))
      | ((with_reducible refine e_in ?_ ?_); focus (simp (disch := omega) only [b_all, sV_all, ↓reduceIte, Nat.reduceEqDiff, Nat.reduceLT, Nat.reduceLeDiff, Nat.reduceAdd, Nat.reduceMul, Nat.reduceSub, i_lit, eq_self, and_true, true_and, and_self, not_true_eq_false, not_false_eq_true, or_true, true_or, or_false, false_or, false_and, and_false, reduceCtorEq, Nat.add_left_cancel_iff, Nat.add_zero, Nat.zero_add, md_all h]; done))
      | unfold fX5_value_16
      | unfold fX5_value_21
      | unfold fX5_value_39
      | fail)
    first | with_reducible rfl | simp (disch := omega) only [b_all, sV_all, ↓reduceIte, Nat.reduceEqDiff, Nat.reduceLT, Nat.reduceLeDiff, Nat.reduceAdd, Nat.reduceMul, Nat.reduceSub, i_lit, eq_self, and_true, true_and, and_self, not_true_eq_false, not_false_eq_true, or_true, true_or, or_false, false_or, false_and, and_false, reduceCtorEq, Nat.add_left_cancel_iff, Nat.add_zero, Nat.zero_add, md_all h]
  · repeat (first
      | (with_reducible refine e_l1 ?_)
      | ((with_reducible refine e_k ?_ (mkM h) ?_); focus rfl)
      | ((with_reducible refine e_p ?_ (mp1 h) ?_); focus rfl)
      | ((with_reducible refine e_p ?_ (mp2 h) ?_); focus rfl)
      | ((with_reducible refine e_p ?_ (mp3 h) ?_); focus rfl)
      | ((with_reducible refine e_p ?_ (mp4 h) ?_); focus rfl)
      | ((with_reducible refine e_p ?_ (mp5 h) ?_); focus rfl)
      | ((with_reducible refine e_p ?_ (mp6 h) ?_); focus rfl)
      | ((with_reducible refine e_p ?_ (mp7 h) ?_); focus rfl)
      | ((with_reducible refine e_p ?_ (mp8 h) ?_); focus rfl)
      | ((with_reducible refine e_p ?_ (mp9 h) ?_); focus rfl)
      | ((with_reducible refine e_p ?_ (mp10 h) ?_); focus rfl)
      | ((with_reducible refine e_p ?_ (mp11 h) ?_); focus rfl)
      | ((with_reducible refine e_p ?_ (mp12 h) ?_); focus rfl)
      | ((with_reducible refine e_p ?_ (mp13 h) ?_); focus rfl)
      | ((with_reducible refine e_p ?_ (mp14 h) ?_); focus rfl)
      | ((with_reducible refine e_p ?_ (mp15 h) ?_); focus rfl)
      | ((with_reducible refine e_p ?_ (mp16 h) ?_); focus rfl)
      | ((with_reducible refine e_p ?_ (mp17 h) ?_); focus rfl)
      | ((with_reducible refine e_p ?_ (mp18 h) ?_); focus rfl)
      | ((with_reducible refine e_p ?_ (mp19 h) ?_); focus rfl)
      | ((with_reducible refine e_p ?_ (mp20 h) ?_); focus rfl)
      | ((with_reducible refine e_p ?_ (mp21 h) ?_); focus rfl)
      | ((with_reducible refine e_o2 ?_ ei ?_); focus (first | with_reducible rfl | (simp (disch := omega) only [b_all, sV_all, ↓reduceIte, Nat.reduceEqDiff, Nat.reduceLT, Nat.reduceLeDiff, Nat.reduceAdd, Nat.reduceMul, Nat.reduceSub, i_lit, eq_self, and_true, true_and, and_self, not_true_eq_false, not_false_eq_true, or_true, true_or, or_false, false_or, false_and, and_false, reduceCtorEq, Nat.add_left_cancel_iff, Nat.add_zero, Nat.zero_add, md_all h]; done)))
      | ((with_reducible refine e_o2 ?_ ej ?_); focus (first | with_reducible rfl | (simp (disch := omega) only [b_all, sV_all, ↓reduceIte, Nat.reduceEqDiff, Nat.reduceLT, Nat.reduceLeDiff, Nat.reduceAdd, Nat.reduceMul, Nat.reduceSub, i_lit, eq_self, and_true, true_and, and_self, not_true_eq_false, not_false_eq_true, or_true, true_or, or_false, false_or, false_and, and_false, reduceCtorEq, Nat.add_left_cancel_iff, Nat.add_zero, Nat.zero_add, md_all h]; done)))
      | ((with_reducible refine e_o2 ?_ f0 ?_); focus (first | with_reducible rfl | (simp (disch := omega) only [b_all, sV_all, ↓reduceIte, Nat.reduceEqDiff, Nat.reduceLT, Nat.reduceLeDiff, Nat.reduceAdd, Nat.reduceMul, Nat.reduceSub, i_lit, eq_self, and_true, true_and, and_self, not_true_eq_false, not_false_eq_true, or_true, true_or, or_false, false_or, false_and, and_false, reduceCtorEq, Nat.add_left_cancel_iff, Nat.add_zero, Nat.zero_add, md_all h]; done)))
      | ((with_reducible refine e_ip ?_ ?_); focus (simp (disch := omega) only [b_all, sV_all, ↓reduceIte, Nat.reduceEqDiff, Nat.reduceLT, Nat.reduceLeDiff, Nat.reduceAdd, Nat.reduceMul, Nat.reduceSub, i_lit, eq_self, and_true, true_and, and_self, not_true_eq_false, not_false_eq_true, or_true, true_or, or_false, false_or, false_and, and_false, reduceCtorEq, Nat.add_left_cancel_iff, Nat.add_zero, Nat.zero_add, md_all h]; done))
      | ((with_reducible refine e_in ?_ ?_); focus (simp (disch := omega) only [b_all, sV_all, ↓reduceIte, Nat.reduceEqDiff, Nat.reduceLT, Nat.reduceLeDiff, Nat.reduceAdd, Nat.reduceMul, Nat.reduceSub, i_lit, eq_self, and_true, true_and, and_self, not_true_eq_false, not_false_eq_true, or_true, true_or, or_false, false_or, false_and, and_false, reduceCtorEq, Nat.add_left_cancel_iff, Nat.add_zero, Nat.zero_add, md_all h]; done))
      | unfold fX5_value_16
      | unfold fX5_value_21
      | unfold fX5_value_39
      | fail)
    first | with_reducible rfl | simp (disch := omega) only [b_all, sV_all, ↓reduceIte, Nat.reduceEqDiff, Nat.reduceLT, Nat.reduceLeDiff, Nat.reduceAdd, Nat.reduceMul, Nat.reduceSub, i_lit, eq_self, and_true, true_and, and_self, not_true_eq_false, not_false_eq_true, or_true, true_or, or_false, false_or, false_and, and_false, reduceCtorEq, Nat.add_left_cancel_iff, Nat.add_zero, Nat.zero_add, md_all h]
theorem m_value_ok (hk : 5000 ≤ k) (h : St x B C W M) (hb : Bd W) {s o : Nat} (hs : s < W 0 0) (ho : o < 20) : ∃ r M', fX5_value x k (B + 25) (i32 s) (i32 o) M = some (i32 r, M') ∧ St x B C (t0 W) M' ∧ Lat (t0 W) s o 4294967295 r := by
  have h0 := hb.1
  have ei := s_isSite (k := k) h (a := s) (by omega) hb.1.2.1
  have ej := s_isObject (k := k) (x := x) (M := M) (a := o) (by omega)
  have f0 := s_fails0 (k := k) h 1
  have hh : St x B C (t0 W) _ := su0 h 27 0
  obtain ⟨r, e, hl⟩ := s_latest hk hh hb.t0 (s := s) (o := o) (b := 4294967295) (by omega) ho (by omega)
  refine ⟨r, _, ?_, hh, hl⟩
  unfold fX5_value
  repeat (first
    | (with_reducible refine e_l1 ?_)
    | ((with_reducible refine e_k ?_ (mkM h) ?_); focus rfl)
    | ((with_reducible refine e_p ?_ (mp1 h) ?_); focus rfl)
    | ((with_reducible refine e_p ?_ (mp2 h) ?_); focus rfl)
    | ((with_reducible refine e_p ?_ (mp3 h) ?_); focus rfl)
    | ((with_reducible refine e_p ?_ (mp4 h) ?_); focus rfl)
    | ((with_reducible refine e_p ?_ (mp5 h) ?_); focus rfl)
    | ((with_reducible refine e_p ?_ (mp6 h) ?_); focus rfl)
    | ((with_reducible refine e_p ?_ (mp7 h) ?_); focus rfl)
    | ((with_reducible refine e_p ?_ (mp8 h) ?_); focus rfl)
    | ((with_reducible refine e_p ?_ (mp9 h) ?_); focus rfl)
    | ((with_reducible refine e_p ?_ (mp10 h) ?_); focus rfl)
    | ((with_reducible refine e_p ?_ (mp11 h) ?_); focus rfl)
    | ((with_reducible refine e_p ?_ (mp12 h) ?_); focus rfl)
    | ((with_reducible refine e_p ?_ (mp13 h) ?_); focus rfl)
    | ((with_reducible refine e_p ?_ (mp14 h) ?_); focus rfl)
    | ((with_reducible refine e_p ?_ (mp15 h) ?_); focus rfl)
    | ((with_reducible refine e_p ?_ (mp16 h) ?_); focus rfl)
    | ((with_reducible refine e_p ?_ (mp17 h) ?_); focus rfl)
    | ((with_reducible refine e_p ?_ (mp18 h) ?_); focus rfl)
    | ((with_reducible refine e_p ?_ (mp19 h) ?_); focus rfl)
    | ((with_reducible refine e_p ?_ (mp20 h) ?_); focus rfl)
    | ((with_reducible refine e_p ?_ (mp21 h) ?_); focus rfl)
    | ((with_reducible refine e_o2 ?_ ei ?_); focus (first | with_reducible rfl | (simp (disch := omega) only [b_all, sV_all, ↓reduceIte, Nat.reduceEqDiff, Nat.reduceLT, Nat.reduceLeDiff, Nat.reduceAdd, Nat.reduceMul, Nat.reduceSub, i_lit, eq_self, and_true, true_and, and_self, not_true_eq_false, not_false_eq_true, or_true, true_or, or_false, false_or, false_and, and_false, reduceCtorEq, Nat.add_left_cancel_iff, Nat.add_zero, Nat.zero_add, md_all h]; done)))
    | ((with_reducible refine e_o2 ?_ ej ?_); focus (first | with_reducible rfl | (simp (disch := omega) only [b_all, sV_all, ↓reduceIte, Nat.reduceEqDiff, Nat.reduceLT, Nat.reduceLeDiff, Nat.reduceAdd, Nat.reduceMul, Nat.reduceSub, i_lit, eq_self, and_true, true_and, and_self, not_true_eq_false, not_false_eq_true, or_true, true_or, or_false, false_or, false_and, and_false, reduceCtorEq, Nat.add_left_cancel_iff, Nat.add_zero, Nat.zero_add, md_all h]; done)))
    | ((with_reducible refine e_o2 ?_ f0 ?_); focus (first | with_reducible rfl | (simp (disch := omega) only [b_all, sV_all, ↓reduceIte, Nat.reduceEqDiff, Nat.reduceLT, Nat.reduceLeDiff, Nat.reduceAdd, Nat.reduceMul, Nat.reduceSub, i_lit, eq_self, and_true, true_and, and_self, not_true_eq_false, not_false_eq_true, or_true, true_or, or_false, false_or, false_and, and_false, reduceCtorEq, Nat.add_left_cancel_iff, Nat.add_zero, Nat.zero_add, md_all h]; done)))
    | ((with_reducible refine e_o2 ?_ e ?_); focus (first | with_reducible rfl | (simp (disch := omega) only [b_all, sV_all, ↓reduceIte, Nat.reduceEqDiff, Nat.reduceLT, Nat.reduceLeDiff, Nat.reduceAdd, Nat.reduceMul, Nat.reduceSub, i_lit, eq_self, and_true, true_and, and_self, not_true_eq_false, not_false_eq_true, or_true, true_or, or_false, false_or, false_and, and_false, reduceCtorEq, Nat.add_left_cancel_iff, Nat.add_zero, Nat.zero_add, md_all h]; done)))
    | ((with_reducible refine e_ip ?_ ?_); focus (simp (disch := omega) only [b_all, sV_all, ↓reduceIte, Nat.reduceEqDiff, Nat.reduceLT, Nat.reduceLeDiff, Nat.reduceAdd, Nat.reduceMul, Nat.reduceSub, i_lit, eq_self, and_true, true_and, and_self, not_true_eq_false, not_false_eq_true, or_true, true_or, or_false, false_or, false_and, and_false, reduceCtorEq, Nat.add_left_cancel_iff, Nat.add_zero, Nat.zero_add, md_all h]; done))
    | ((with_reducible refine e_in ?_ ?_); focus (simp (disch := omega) only [b_all, sV_all, ↓reduceIte, Nat.reduceEqDiff, Nat.reduceLT, Nat.reduceLeDiff, Nat.reduceAdd, Nat.reduceMul, Nat.reduceSub, i_lit, eq_self, and_true, true_and, and_self, not_true_eq_false, not_false_eq_true, or_true, true_or, or_false, false_or, false_and, and_false, reduceCtorEq, Nat.add_left_cancel_iff, Nat.add_zero, Nat.zero_add, md_all h]; done))
    | unfold fX5_value_21
    | unfold fX5_value_39
    | fail)
  first | with_reducible rfl | simp (disch := omega) only [b_all, sV_all, ↓reduceIte, Nat.reduceEqDiff, Nat.reduceLT, Nat.reduceLeDiff, Nat.reduceAdd, Nat.reduceMul, Nat.reduceSub, i_lit, eq_self, and_true, true_and, and_self, not_true_eq_false, not_false_eq_true, or_true, true_or, or_false, false_or, false_and, and_false, reduceCtorEq, Nat.add_left_cancel_iff, Nat.add_zero, Nat.zero_add, md_all h]
theorem m_locked_iae (h : St x B C W M) (hb : Bd W) {s o : Nat} (hs' : s < 4294967296) (ho' : o < 4294967296) (hn : ¬ (s < W 0 0 ∧ o < 20)) : fX5_locked x k (B + 25) (i32 s) (i32 o) M = some (i32 0, sV M (B + 25) 27 (i32 1)) := by
  have ei := s_isSite (k := k) h hs' hb.1.2.1
  have ej := s_isObject (k := k) (x := x) (M := M) ho'
  have f0 := s_fails1 (k := k) h 1
  unfold fX5_locked
  by_cases c : s < W 0 0
  · repeat (first
      | (with_reducible refine e_l1 ?_)
      | ((with_reducible refine e_k ?_ (mkM h) ?_); focus rfl)
      | ((with_reducible refine e_p ?_ (mp1 h) ?_); focus rfl)
      | ((with_reducible refine e_p ?_ (mp2 h) ?_); focus rfl)
      | ((with_reducible refine e_p ?_ (mp3 h) ?_); focus rfl)
      | ((with_reducible refine e_p ?_ (mp4 h) ?_); focus rfl)
      | ((with_reducible refine e_p ?_ (mp5 h) ?_); focus rfl)
      | ((with_reducible refine e_p ?_ (mp6 h) ?_); focus rfl)
      | ((with_reducible refine e_p ?_ (mp7 h) ?_); focus rfl)
      | ((with_reducible refine e_p ?_ (mp8 h) ?_); focus rfl)
      | ((with_reducible refine e_p ?_ (mp9 h) ?_); focus rfl)
      | ((with_reducible refine e_p ?_ (mp10 h) ?_); focus rfl)
      | ((with_reducible refine e_p ?_ (mp11 h) ?_); focus rfl)
      | ((with_reducible refine e_p ?_ (mp12 h) ?_); focus rfl)
      | ((with_reducible refine e_p ?_ (mp13 h) ?_); focus rfl)
      | ((with_reducible refine e_p ?_ (mp14 h) ?_); focus rfl)
      | ((with_reducible refine e_p ?_ (mp15 h) ?_); focus rfl)
      | ((with_reducible refine e_p ?_ (mp16 h) ?_); focus rfl)
      | ((with_reducible refine e_p ?_ (mp17 h) ?_); focus rfl)
      | ((with_reducible refine e_p ?_ (mp18 h) ?_); focus rfl)
      | ((with_reducible refine e_p ?_ (mp19 h) ?_); focus rfl)
      | ((with_reducible refine e_p ?_ (mp20 h) ?_); focus rfl)
      | ((with_reducible refine e_p ?_ (mp21 h) ?_); focus rfl)
      | ((with_reducible refine e_o2 ?_ ei ?_); focus (first | with_reducible rfl | (simp (disch := omega) only [b_all, sV_all, ↓reduceIte, Nat.reduceEqDiff, Nat.reduceLT, Nat.reduceLeDiff, Nat.reduceAdd, Nat.reduceMul, Nat.reduceSub, i_lit, eq_self, and_true, true_and, and_self, not_true_eq_false, not_false_eq_true, or_true, true_or, or_false, false_or, false_and, and_false, reduceCtorEq, Nat.add_left_cancel_iff, Nat.add_zero, Nat.zero_add, md_all h]; done)))
      | ((with_reducible refine e_o2 ?_ ej ?_); focus (first | with_reducible rfl | (simp (disch := omega) only [b_all, sV_all, ↓reduceIte, Nat.reduceEqDiff, Nat.reduceLT, Nat.reduceLeDiff, Nat.reduceAdd, Nat.reduceMul, Nat.reduceSub, i_lit, eq_self, and_true, true_and, and_self, not_true_eq_false, not_false_eq_true, or_true, true_or, or_false, false_or, false_and, and_false, reduceCtorEq, Nat.add_left_cancel_iff, Nat.add_zero, Nat.zero_add, md_all h]; done)))
      | ((with_reducible refine e_o2 ?_ f0 ?_); focus (first | with_reducible rfl | (simp (disch := omega) only [b_all, sV_all, ↓reduceIte, Nat.reduceEqDiff, Nat.reduceLT, Nat.reduceLeDiff, Nat.reduceAdd, Nat.reduceMul, Nat.reduceSub, i_lit, eq_self, and_true, true_and, and_self, not_true_eq_false, not_false_eq_true, or_true, true_or, or_false, false_or, false_and, and_false, reduceCtorEq, Nat.add_left_cancel_iff, Nat.add_zero, Nat.zero_add, md_all h]; done)))
      | ((with_reducible refine e_ip ?_ ?_); focus (simp (disch := omega) only [b_all, sV_all, ↓reduceIte, Nat.reduceEqDiff, Nat.reduceLT, Nat.reduceLeDiff, Nat.reduceAdd, Nat.reduceMul, Nat.reduceSub, i_lit, eq_self, and_true, true_and, and_self, not_true_eq_false, not_false_eq_true, or_true, true_or, or_false, false_or, false_and, and_false, reduceCtorEq, Nat.add_left_cancel_iff, Nat.add_zero, Nat.zero_add, md_all h]; done))
      | ((with_reducible refine e_in ?_ ?_); focus (simp (disch := omega) only [b_all, sV_all, ↓reduceIte, Nat.reduceEqDiff, Nat.reduceLT, Nat.reduceLeDiff, Nat.reduceAdd, Nat.reduceMul, Nat.reduceSub, i_lit, eq_self, and_true, true_and, and_self, not_true_eq_false, not_false_eq_true, or_true, true_or, or_false, false_or, false_and, and_false, reduceCtorEq, Nat.add_left_cancel_iff, Nat.add_zero, Nat.zero_add, md_all h]; done))
      | unfold fX5_locked_16
      | unfold fX5_locked_21
      | unfold fX5_locked_43
      | fail)
    first | with_reducible rfl | simp (disch := omega) only [b_all, sV_all, ↓reduceIte, Nat.reduceEqDiff, Nat.reduceLT, Nat.reduceLeDiff, Nat.reduceAdd, Nat.reduceMul, Nat.reduceSub, i_lit, eq_self, and_true, true_and, and_self, not_true_eq_false, not_false_eq_true, or_true, true_or, or_false, false_or, false_and, and_false, reduceCtorEq, Nat.add_left_cancel_iff, Nat.add_zero, Nat.zero_add, md_all h]
  · repeat (first
      | (with_reducible refine e_l1 ?_)
      | ((with_reducible refine e_k ?_ (mkM h) ?_); focus rfl)
      | ((with_reducible refine e_p ?_ (mp1 h) ?_); focus rfl)
      | ((with_reducible refine e_p ?_ (mp2 h) ?_); focus rfl)
      | ((with_reducible refine e_p ?_ (mp3 h) ?_); focus rfl)
      | ((with_reducible refine e_p ?_ (mp4 h) ?_); focus rfl)
      | ((with_reducible refine e_p ?_ (mp5 h) ?_); focus rfl)
      | ((with_reducible refine e_p ?_ (mp6 h) ?_); focus rfl)
      | ((with_reducible refine e_p ?_ (mp7 h) ?_); focus rfl)
      | ((with_reducible refine e_p ?_ (mp8 h) ?_); focus rfl)
      | ((with_reducible refine e_p ?_ (mp9 h) ?_); focus rfl)
      | ((with_reducible refine e_p ?_ (mp10 h) ?_); focus rfl)
      | ((with_reducible refine e_p ?_ (mp11 h) ?_); focus rfl)
      | ((with_reducible refine e_p ?_ (mp12 h) ?_); focus rfl)
      | ((with_reducible refine e_p ?_ (mp13 h) ?_); focus rfl)
      | ((with_reducible refine e_p ?_ (mp14 h) ?_); focus rfl)
      | ((with_reducible refine e_p ?_ (mp15 h) ?_); focus rfl)
      | ((with_reducible refine e_p ?_ (mp16 h) ?_); focus rfl)
      | ((with_reducible refine e_p ?_ (mp17 h) ?_); focus rfl)
      | ((with_reducible refine e_p ?_ (mp18 h) ?_); focus rfl)
      | ((with_reducible refine e_p ?_ (mp19 h) ?_); focus rfl)
      | ((with_reducible refine e_p ?_ (mp20 h) ?_); focus rfl)
      | ((with_reducible refine e_p ?_ (mp21 h) ?_); focus rfl)
      | ((with_reducible refine e_o2 ?_ ei ?_); focus (first | with_reducible rfl | (simp (disch := omega) only [b_all, sV_all, ↓reduceIte, Nat.reduceEqDiff, Nat.reduceLT, Nat.reduceLeDiff, Nat.reduceAdd, Nat.reduceMul, Nat.reduceSub, i_lit, eq_self, and_true, true_and, and_self, not_true_eq_false, not_false_eq_true, or_true, true_or, or_false, false_or, false_and, and_false, reduceCtorEq, Nat.add_left_cancel_iff, Nat.add_zero, Nat.zero_add, md_all h]; done)))
      | ((with_reducible refine e_o2 ?_ ej ?_); focus (first | with_reducible rfl | (simp (disch := omega) only [b_all, sV_all, ↓reduceIte, Nat.reduceEqDiff, Nat.reduceLT, Nat.reduceLeDiff, Nat.reduceAdd, Nat.reduceMul, Nat.reduceSub, i_lit, eq_self, and_true, true_and, and_self, not_true_eq_false, not_false_eq_true, or_true, true_or, or_false, false_or, false_and, and_false, reduceCtorEq, Nat.add_left_cancel_iff, Nat.add_zero, Nat.zero_add, md_all h]; done)))
      | ((with_reducible refine e_o2 ?_ f0 ?_); focus (first | with_reducible rfl | (simp (disch := omega) only [b_all, sV_all, ↓reduceIte, Nat.reduceEqDiff, Nat.reduceLT, Nat.reduceLeDiff, Nat.reduceAdd, Nat.reduceMul, Nat.reduceSub, i_lit, eq_self, and_true, true_and, and_self, not_true_eq_false, not_false_eq_true, or_true, true_or, or_false, false_or, false_and, and_false, reduceCtorEq, Nat.add_left_cancel_iff, Nat.add_zero, Nat.zero_add, md_all h]; done)))
      | ((with_reducible refine e_ip ?_ ?_); focus (simp (disch := omega) only [b_all, sV_all, ↓reduceIte, Nat.reduceEqDiff, Nat.reduceLT, Nat.reduceLeDiff, Nat.reduceAdd, Nat.reduceMul, Nat.reduceSub, i_lit, eq_self, and_true, true_and, and_self, not_true_eq_false, not_false_eq_true, or_true, true_or, or_false, false_or, false_and, and_false, reduceCtorEq, Nat.add_left_cancel_iff, Nat.add_zero, Nat.zero_add, md_all h]; done))
      | ((with_reducible refine e_in ?_ ?_); focus (simp (disch := omega) only [b_all, sV_all, ↓reduceIte, Nat.reduceEqDiff, Nat.reduceLT, Nat.reduceLeDiff, Nat.reduceAdd, Nat.reduceMul, Nat.reduceSub, i_lit, eq_self, and_true, true_and, and_self, not_true_eq_false, not_false_eq_true, or_true, true_or, or_false, false_or, false_and, and_false, reduceCtorEq, Nat.add_left_cancel_iff, Nat.add_zero, Nat.zero_add, md_all h]; done))
      | unfold fX5_locked_16
      | unfold fX5_locked_21
      | unfold fX5_locked_43
      | fail)
    first | with_reducible rfl | simp (disch := omega) only [b_all, sV_all, ↓reduceIte, Nat.reduceEqDiff, Nat.reduceLT, Nat.reduceLeDiff, Nat.reduceAdd, Nat.reduceMul, Nat.reduceSub, i_lit, eq_self, and_true, true_and, and_self, not_true_eq_false, not_false_eq_true, or_true, true_or, or_false, false_or, false_and, and_false, reduceCtorEq, Nat.add_left_cancel_iff, Nat.add_zero, Nat.zero_add, md_all h]
theorem m_locked_ok (h : St x B C W M) (hb : Bd W) {s o : Nat} (hs : s < W 0 0) (ho : o < 20) : ∃ M', fX5_locked x k (B + 25) (i32 s) (i32 o) M = some (i32 (W 3 (20 * s + o)), M') ∧ St x B C (t0 W) M' := by
  have h0 := hb.1
  have ei := s_isSite (k := k) h (a := s) (by omega) hb.1.2.1
  have ej := s_isObject (k := k) (x := x) (M := M) (a := o) (by omega)
  have f0 := s_fails0 (k := k) h 1
  refine ⟨_, ?_, show St x B C (t0 W) _ from su0 h 27 0⟩
  unfold fX5_locked
  repeat (first
    | (with_reducible refine e_l1 ?_)
    | ((with_reducible refine e_k ?_ (mkM h) ?_); focus rfl)
    | ((with_reducible refine e_p ?_ (mp1 h) ?_); focus rfl)
    | ((with_reducible refine e_p ?_ (mp2 h) ?_); focus rfl)
    | ((with_reducible refine e_p ?_ (mp3 h) ?_); focus rfl)
    | ((with_reducible refine e_p ?_ (mp4 h) ?_); focus rfl)
    | ((with_reducible refine e_p ?_ (mp5 h) ?_); focus rfl)
    | ((with_reducible refine e_p ?_ (mp6 h) ?_); focus rfl)
    | ((with_reducible refine e_p ?_ (mp7 h) ?_); focus rfl)
    | ((with_reducible refine e_p ?_ (mp8 h) ?_); focus rfl)
    | ((with_reducible refine e_p ?_ (mp9 h) ?_); focus rfl)
    | ((with_reducible refine e_p ?_ (mp10 h) ?_); focus rfl)
    | ((with_reducible refine e_p ?_ (mp11 h) ?_); focus rfl)
    | ((with_reducible refine e_p ?_ (mp12 h) ?_); focus rfl)
    | ((with_reducible refine e_p ?_ (mp13 h) ?_); focus rfl)
    | ((with_reducible refine e_p ?_ (mp14 h) ?_); focus rfl)
    | ((with_reducible refine e_p ?_ (mp15 h) ?_); focus rfl)
    | ((with_reducible refine e_p ?_ (mp16 h) ?_); focus rfl)
    | ((with_reducible refine e_p ?_ (mp17 h) ?_); focus rfl)
    | ((with_reducible refine e_p ?_ (mp18 h) ?_); focus rfl)
    | ((with_reducible refine e_p ?_ (mp19 h) ?_); focus rfl)
    | ((with_reducible refine e_p ?_ (mp20 h) ?_); focus rfl)
    | ((with_reducible refine e_p ?_ (mp21 h) ?_); focus rfl)
    | ((with_reducible refine e_o2 ?_ ei ?_); focus (first | with_reducible rfl | (simp (disch := omega) only [b_all, sV_all, ↓reduceIte, Nat.reduceEqDiff, Nat.reduceLT, Nat.reduceLeDiff, Nat.reduceAdd, Nat.reduceMul, Nat.reduceSub, i_lit, eq_self, and_true, true_and, and_self, not_true_eq_false, not_false_eq_true, or_true, true_or, or_false, false_or, false_and, and_false, reduceCtorEq, Nat.add_left_cancel_iff, Nat.add_zero, Nat.zero_add, md_all h]; done)))
    | ((with_reducible refine e_o2 ?_ ej ?_); focus (first | with_reducible rfl | (simp (disch := omega) only [b_all, sV_all, ↓reduceIte, Nat.reduceEqDiff, Nat.reduceLT, Nat.reduceLeDiff, Nat.reduceAdd, Nat.reduceMul, Nat.reduceSub, i_lit, eq_self, and_true, true_and, and_self, not_true_eq_false, not_false_eq_true, or_true, true_or, or_false, false_or, false_and, and_false, reduceCtorEq, Nat.add_left_cancel_iff, Nat.add_zero, Nat.zero_add, md_all h]; done)))
    | ((with_reducible refine e_o2 ?_ f0 ?_); focus (first | with_reducible rfl | (simp (disch := omega) only [b_all, sV_all, ↓reduceIte, Nat.reduceEqDiff, Nat.reduceLT, Nat.reduceLeDiff, Nat.reduceAdd, Nat.reduceMul, Nat.reduceSub, i_lit, eq_self, and_true, true_and, and_self, not_true_eq_false, not_false_eq_true, or_true, true_or, or_false, false_or, false_and, and_false, reduceCtorEq, Nat.add_left_cancel_iff, Nat.add_zero, Nat.zero_add, md_all h]; done)))
    | ((with_reducible refine e_ip ?_ ?_); focus (simp (disch := omega) only [b_all, sV_all, ↓reduceIte, Nat.reduceEqDiff, Nat.reduceLT, Nat.reduceLeDiff, Nat.reduceAdd, Nat.reduceMul, Nat.reduceSub, i_lit, eq_self, and_true, true_and, and_self, not_true_eq_false, not_false_eq_true, or_true, true_or, or_false, false_or, false_and, and_false, reduceCtorEq, Nat.add_left_cancel_iff, Nat.add_zero, Nat.zero_add, md_all h]; done))
    | ((with_reducible refine e_in ?_ ?_); focus (simp (disch := omega) only [b_all, sV_all, ↓reduceIte, Nat.reduceEqDiff, Nat.reduceLT, Nat.reduceLeDiff, Nat.reduceAdd, Nat.reduceMul, Nat.reduceSub, i_lit, eq_self, and_true, true_and, and_self, not_true_eq_false, not_false_eq_true, or_true, true_or, or_false, false_or, false_and, and_false, reduceCtorEq, Nat.add_left_cancel_iff, Nat.add_zero, Nat.zero_add, md_all h]; done))
    | unfold fX5_locked_21
    | unfold fX5_locked_43
    | fail)
  first | with_reducible rfl | simp (disch := omega) only [b_all, sV_all, ↓reduceIte, Nat.reduceEqDiff, Nat.reduceLT, Nat.reduceLeDiff, Nat.reduceAdd, Nat.reduceMul, Nat.reduceSub, i_lit, eq_self, and_true, true_and, and_self, not_true_eq_false, not_false_eq_true, or_true, true_or, or_false, false_or, false_and, and_false, reduceCtorEq, Nat.add_left_cancel_iff, Nat.add_zero, Nat.zero_add, md_all h]
end
