/-- P, and c of all below n -/
def al (P : Prop) (c : Nat → Prop) (n : Nat) : Prop := P ∧ ∀ i, i < n → c i
theorem al_t {P : Prop} {c : Nat → Prop} {n : Nat} (h : c n) : bp (al P c (n + 1)) = bp (al P c n) := by
  apply bp_iff
  constructor
  · intro ⟨a, b⟩; exact ⟨a, fun i hi => b i (by omega)⟩
  · intro ⟨a, b⟩
    refine ⟨a, fun i hi => ?_⟩
    rcases (show i < n ∨ i = n by omega) with q | rfl
    · exact b i q
    · exact h
theorem al_f {P : Prop} {c : Nat → Prop} {n : Nat} (h : ¬ c n) : bp (al P c (n + 1)) = 0 := bp_f fun ⟨_, b⟩ => h (b n (by omega))
theorem al_0 {P : Prop} {c : Nat → Prop} : bp (al P c 0) = bp P := bp_iff ⟨fun z => z.1, fun z => ⟨z, fun i hi => by omega⟩⟩
def okU (W : Ab) (t s o u : Nat) : Prop := 0 < W 8 (5 * u + s) → wr W u o → sees W t u
def fits (W : Ab) (t s o : Nat) : Prop := al (W 3 (20 * s + o) = 4294967295 ∨ W 3 (20 * s + o) = t) (okU W t s o) (W 0 5)
def fitO (W : Ab) (t s o : Nat) : Prop := wr W t o → o % W 0 0 = s → fits W t s o
def allFit (W : Ab) (t s : Nat) : Prop := al True (fitO W t s) 20
/-- unlocking, locking, sending, applying -/
def unl (W : Ab) (t s : Nat) : Nat → Ab
  | 0 => W
  | o + 1 => if unl W t s o 3 (20 * s + o) = t then U (unl W t s o) 3 (20 * s + o) 4294967295 else unl W t s o
def lk (W : Ab) (t s : Nat) : Nat → Ab
  | 0 => W
  | o + 1 => if W 13 (20 * t + o) ≠ 0 ∧ o % W 0 0 = s then U (lk W t s o) 3 (20 * s + o) t else lk W t s o
def wSend (W : Ab) (kd fr to t : Nat) : Ab := if W 0 23 = 300 then U W 0 24 (W 0 24 + 1) else U (U (U (U (U (U W 0 24 (W 0 24 + 1)) 20 (4 * W 0 23) kd) 20 (4 * W 0 23 + 1) fr) 20 (4 * W 0 23 + 2) to) 20 (4 * W 0 23 + 3) t) 0 23 (W 0 23 + 1)
def wApp (W : Ab) (t s : Nat) : Ab := unl (U (U (U (U W 1 (5 * s + W 4 t) (W 1 (5 * s + W 4 t) + 1)) 0 4 (W 0 4 + 1)) 8 (5 * t + s) (W 0 4 + 1)) 9 (5 * t + s) 0) t s 20
theorem unl_r (W : Ab) (t s : Nat) {i : Nat} (hi : i ≠ 3) (j : Nat) : ∀ n, unl W t s n i j = W i j
  | 0 => rfl
  | n + 1 => by
    unfold unl
    split
    · rw [U_r _ hi]; exact unl_r W t s hi j n
    · exact unl_r W t s hi j n
theorem lk_r (W : Ab) (t s : Nat) {i : Nat} (hi : i ≠ 3) (j : Nat) : ∀ n, lk W t s n i j = W i j
  | 0 => rfl
  | n + 1 => by
    unfold lk
    split
    · rw [U_r _ hi]; exact lk_r W t s hi j n
    · exact lk_r W t s hi j n
theorem wSend_r (W : Ab) (kd fr to t : Nat) {i : Nat} (hi : i ≠ 0 ∧ i ≠ 20) (j : Nat) : wSend W kd fr to t i j = W i j := by
  unfold wSend; split <;> simp (disch := omega) only [U_r]
theorem wSend_k (W : Ab) (kd fr to t : Nat) {j : Nat} (hj : j ≠ 23 ∧ j ≠ 24) : wSend W kd fr to t 0 j = W 0 j := by
  unfold wSend; split <;> simp (disch := omega) only [U_r, U_k]
theorem wSend_l (W : Ab) (kd fr to t : Nat) (h : W 0 23 ≤ 300) : wSend W kd fr to t 0 23 ≤ 300 := by
  unfold wSend; split
  · rw [U_k _ _ _ (by omega)]; exact h
  · rw [U_s]; omega
theorem Bd.send {W : Ab} (h : Bd W) {kd fr to t : Nat} (h1 : kd < 1073741824) (h2 : fr < 1073741824) (h3 : to < 1073741824) (h4 : t < 1073741824) : Bd (wSend W kd fr to t) := by
  unfold wSend
  split
  · exact h.th (by omega) _
  · refine ⟨?_, fun a b ha => ?_⟩
    · simp (disch := omega) only [U_r, U_k, U_s]
      have := h.1
      omega
    · rw [U_r _ (by omega)]
      exact (((((h.th (j := 24) (by omega) _).u (i := 20) (by omega) _ h1).u (i := 20) (by omega) _ h2).u (i := 20) (by omega) _ h3).u (i := 20) (by omega) _ h4).2 a b ha
theorem bd_unl {W : Ab} (h : Bd W) (t s : Nat) : ∀ n, Bd (unl W t s n)
  | 0 => h
  | n + 1 => by
    unfold unl
    split
    · exact (bd_unl h t s n).u (by omega) _ (by decide)
    · exact bd_unl h t s n
theorem bd_lk {W : Ab} (h : Bd W) {t : Nat} (ht : t < 200) (s : Nat) : ∀ n, Bd (lk W t s n)
  | 0 => h
  | n + 1 => by
    unfold lk
    split
    · exact (bd_lk h ht s n).u (by omega) _ (by show t < 4294967296; omega)
    · exact bd_lk h ht s n
theorem bd_app {W : Ab} (h : Bd W) {t s : Nat} (h1 : W 1 (5 * s + W 4 t) + 1 < 1073741824) (h2 : W 0 4 + 1 < 1073741824) : Bd (wApp W t s) := by
  unfold wApp
  apply bd_unl
  refine Bd.u (Bd.u ?_ (by omega) _ (by show W 0 4 + 1 < 1073741824; omega)) (by omega) _ (by decide)
  have hh := h.u (i := 1) (by omega) (5 * s + W 4 t) (v := W 1 (5 * s + W 4 t) + 1) h1
  refine ⟨?_, fun a b ha => ?_⟩
  · simp (disch := omega) only [U_r, U_k, U_s]
    have := h.1
    omega
  · rw [U_r _ (by omega)]; exact hh.2 a b ha
theorem wApp_r (W : Ab) (t s : Nat) {i : Nat} (hi : i ≠ 0 ∧ i ≠ 1 ∧ i ≠ 3 ∧ i ≠ 8 ∧ i ≠ 9) (j : Nat) : wApp W t s i j = W i j := by
  unfold wApp; rw [unl_r _ _ _ (by omega)]; simp (disch := omega) only [U_r]
theorem wApp_0 (W : Ab) (t s : Nat) {j : Nat} (hj : j ≠ 4) : wApp W t s 0 j = W 0 j := by
  unfold wApp; rw [unl_r _ _ _ (by omega)]; simp (disch := omega) only [U_r, U_k]
section
variable {x : Cx} {k B : Nat} {C W : Ab} {M : Mm}
theorem s_send (h : St x B C W M) (hl : W 0 23 ≤ 300) (kd fr to t : Nat) : ∃ M', fX5_send x k (B + 25) (i32 kd) (i32 fr) (i32 to) (i32 t) M = some ((), M') ∧ St x B C (wSend W kd fr to t) M' := by
  by_cases c : W 0 23 = 300
  · refine ⟨_, ?_, show St x B C (wSend W kd fr to t) (sV M (B + 25) 24 (i32 (W 0 24 + 1))) by unfold wSend; rw [if_pos c]; exact su0 h 24 _⟩
    unfold fX5_send
    repeat (first
      | (with_reducible refine e_l1 ?_)
      | ((with_reducible refine e_k ?_ (mkM h) ?_); focus rfl)
      | ((with_reducible refine e_p ?_ (mp1 h) ?_); focus rfl)
      | ((with_reducible refine e_p ?_ (mp2 h) ?_); focus rfl)
      | ((with_reducible refine e_p ?_ (mp3 h) ?_); focus rfl)
      | ((with_reducible refine e_p ?_ (mp4 h) ?_); focus rfl)
      | ((with_reducible refine e_p ?_ (mp5 h) ?_); focus rfl)
      | ((with_reducible refine e_p ?_ (mp6 h) ?_); focus rfl)
      | ((with_reducible refine e_p ?_ (mp7 h) ?_); focus rfl)
      | ((with_reducible refine e_p ?_ (mp8 h) ?_); focus rfl)
      | ((with_reducible refine e_p ?_ (mp9 h) ?_); focus rfl)
      | ((with_reducible refine e_p ?_ (mp10 h) ?_); focus rfl)
      | ((with_reducible refine e_p ?_ (mp11 h) ?_); focus rfl)
      | ((with_reducible refine e_p ?_ (mp12 h) ?_); focus rfl)
      | ((with_reducible refine e_p ?_ (mp13 h) ?_); focus rfl)
      | ((with_reducible refine e_p ?_ (mp14 h) ?_); focus rfl)
      | ((with_reducible refine e_p ?_ (mp15 h) ?_); focus rfl)
      | ((with_reducible refine e_p ?_ (mp16 h) ?_); focus rfl)
      | ((with_reducible refine e_p ?_ (mp17 h) ?_); focus rfl)
      | ((with_reducible refine e_p ?_ (mp18 h) ?_); focus rfl)
      | ((with_reducible refine e_p ?_ (mp19 h) ?_); focus rfl)
      | ((with_reducible refine e_p ?_ (mp20 h) ?_); focus rfl)
      | ((with_reducible refine e_p ?_ (mp21 h) ?_); focus rfl)
      | ((with_reducible refine e_ip ?_ ?_); focus (simp (disch := omega) only [b_all, sV_all, ↓reduceIte, Nat.reduceEqDiff, Nat.reduceLT, Nat.reduceLeDiff, Nat.reduceAdd, Nat.reduceMul, Nat.reduceSub, i_lit, eq_self, and_true, true_and, and_self, not_true_eq_false, not_false_eq_true, or_true, true_or, or_false, false_or, false_and, and_false, reduceCtorEq, Nat.add_left_cancel_iff, Nat.add_zero, Nat.zero_add, md_all h]; done))
      | ((with_reducible refine e_in ?_ ?_); focus (simp (disch := omega) only [b_all, sV_all, ↓reduceIte, Nat.reduceEqDiff, Nat.reduceLT, Nat.reduceLeDiff, Nat.reduceAdd, Nat.reduceMul, Nat.reduceSub, i_lit, eq_self, and_true, true_and, and_self, not_true_eq_false, not_false_eq_true, or_true, true_or, or_false, false_or, false_and, and_false, reduceCtorEq, Nat.add_left_cancel_iff, Nat.add_zero, Nat.zero_add, md_all h]; done))
      | fail)
    first | with_reducible rfl | simp (disch := omega) only [b_all, sV_all, ↓reduceIte, Nat.reduceEqDiff, Nat.reduceLT, Nat.reduceLeDiff, Nat.reduceAdd, Nat.reduceMul, Nat.reduceSub, i_lit, eq_self, and_true, true_and, and_self, not_true_eq_false, not_false_eq_true, or_true, true_or, or_false, false_or, false_and, and_false, reduceCtorEq, Nat.add_left_cancel_iff, Nat.add_zero, Nat.zero_add, md_all h]
  · have hh := su0 (su20 (su20 (su20 (su20 (su0 h 24 (W 0 24 + 1)) (4 * W 0 23) kd) (4 * W 0 23 + 1) fr) (4 * W 0 23 + 2) to) (4 * W 0 23 + 3) t) 23 (W 0 23 + 1)
    refine ⟨_, ?_, by unfold wSend; rw [if_neg c]; exact hh⟩
    unfold fX5_send
    repeat (first
      | (with_reducible refine e_l1 ?_)
      | ((with_reducible refine e_k ?_ (mkM h) ?_); focus rfl)
      | ((with_reducible refine e_p ?_ (mp1 h) ?_); focus rfl)
      | ((with_reducible refine e_p ?_ (mp2 h) ?_); focus rfl)
      | ((with_reducible refine e_p ?_ (mp3 h) ?_); focus rfl)
      | ((with_reducible refine e_p ?_ (mp4 h) ?_); focus rfl)
      | ((with_reducible refine e_p ?_ (mp5 h) ?_); focus rfl)
      | ((with_reducible refine e_p ?_ (mp6 h) ?_); focus rfl)
      | ((with_reducible refine e_p ?_ (mp7 h) ?_); focus rfl)
      | ((with_reducible refine e_p ?_ (mp8 h) ?_); focus rfl)
      | ((with_reducible refine e_p ?_ (mp9 h) ?_); focus rfl)
      | ((with_reducible refine e_p ?_ (mp10 h) ?_); focus rfl)
      | ((with_reducible refine e_p ?_ (mp11 h) ?_); focus rfl)
      | ((with_reducible refine e_p ?_ (mp12 h) ?_); focus rfl)
      | ((with_reducible refine e_p ?_ (mp13 h) ?_); focus rfl)
      | ((with_reducible refine e_p ?_ (mp14 h) ?_); focus rfl)
      | ((with_reducible refine e_p ?_ (mp15 h) ?_); focus rfl)
      | ((with_reducible refine e_p ?_ (mp16 h) ?_); focus rfl)
      | ((with_reducible refine e_p ?_ (mp17 h) ?_); focus rfl)
      | ((with_reducible refine e_p ?_ (mp18 h) ?_); focus rfl)
      | ((with_reducible refine e_p ?_ (mp19 h) ?_); focus rfl)
      | ((with_reducible refine e_p ?_ (mp20 h) ?_); focus rfl)
      | ((with_reducible refine e_p ?_ (mp21 h) ?_); focus rfl)
      | ((with_reducible refine e_ip ?_ ?_); focus (simp (disch := omega) only [b_all, sV_all, ↓reduceIte, Nat.reduceEqDiff, Nat.reduceLT, Nat.reduceLeDiff, Nat.reduceAdd, Nat.reduceMul, Nat.reduceSub, i_lit, eq_self, and_true, true_and, and_self, not_true_eq_false, not_false_eq_true, or_true, true_or, or_false, false_or, false_and, and_false, reduceCtorEq, Nat.add_left_cancel_iff, Nat.add_zero, Nat.zero_add, md_all h]; done))
      | ((with_reducible refine e_in ?_ ?_); focus (simp (disch := omega) only [b_all, sV_all, ↓reduceIte, Nat.reduceEqDiff, Nat.reduceLT, Nat.reduceLeDiff, Nat.reduceAdd, Nat.reduceMul, Nat.reduceSub, i_lit, eq_self, and_true, true_and, and_self, not_true_eq_false, not_false_eq_true, or_true, true_or, or_false, false_or, false_and, and_false, reduceCtorEq, Nat.add_left_cancel_iff, Nat.add_zero, Nat.zero_add, md_all h]; done))
      | fail)
    first | with_reducible rfl | simp (disch := omega) only [b_all, sV_all, ↓reduceIte, Nat.reduceEqDiff, Nat.reduceLT, Nat.reduceLeDiff, Nat.reduceAdd, Nat.reduceMul, Nat.reduceSub, i_lit, eq_self, and_true, true_and, and_self, not_true_eq_false, not_false_eq_true, or_true, true_or, or_false, false_or, false_and, and_false, reduceCtorEq, Nat.add_left_cancel_iff, Nat.add_zero, Nat.zero_add, md_all h]
theorem s_unlock2 (W : Ab) (hb : ∀ j, W 3 j < 4294967296) {t s : Nat} (ht : t < 200) (hs : s < 5) : ∀ (n o : Nat) (M : Mm), St x B C (unl W t s o) M → o ≤ 20 → 20 < n + o → ∃ M', fX5_unlock_2 x k n (B + 25) (i32 t) (i32 s) (i32 o) M = some ((), M') ∧ St x B C (unl W t s 20) M' := by
  intro n
  induction n with
  | zero => intro j M _ h1 h2; omega
  | succ n ih =>
    intro o M h hj hn
    by_cases hc : 20 ≤ o
    · obtain rfl : o = 20 := by omega
      refine ⟨M, ?_, h⟩
      rw [fX5_unlock_2]
      repeat (first
        | (with_reducible refine e_l1 ?_)
        | ((with_reducible refine e_k ?_ (mkM h) ?_); focus rfl)
        | ((with_reducible refine e_p ?_ (mp1 h) ?_); focus rfl)
        | ((with_reducible refine e_p ?_ (mp2 h) ?_); focus rfl)
        | ((with_reducible refine e_p ?_ (mp3 h) ?_); focus rfl)
        | ((with_reducible refine e_p ?_ (mp4 h) ?_); focus rfl)
        | ((with_reducible refine e_p ?_ (mp5 h) ?_); focus rfl)
        | ((with_reducible refine e_p ?_ (mp6 h) ?_); focus rfl)
        | ((with_reducible refine e_p ?_ (mp7 h) ?_); focus rfl)
        | ((with_reducible refine e_p ?_ (mp8 h) ?_); focus rfl)
        | ((with_reducible refine e_p ?_ (mp9 h) ?_); focus rfl)
        | ((with_reducible refine e_p ?_ (mp10 h) ?_); focus rfl)
        | ((with_reducible refine e_p ?_ (mp11 h) ?_); focus rfl)
        | ((with_reducible refine e_p ?_ (mp12 h) ?_); focus rfl)
        | ((with_reducible refine e_p ?_ (mp13 h) ?_); focus rfl)
        | ((with_reducible refine e_p ?_ (mp14 h) ?_); focus rfl)
        | ((with_reducible refine e_p ?_ (mp15 h) ?_); focus rfl)
        | ((with_reducible refine e_p ?_ (mp16 h) ?_); focus rfl)
        | ((with_reducible refine e_p ?_ (mp17 h) ?_); focus rfl)
        | ((with_reducible refine e_p ?_ (mp18 h) ?_); focus rfl)
        | ((with_reducible refine e_p ?_ (mp19 h) ?_); focus rfl)
        | ((with_reducible refine e_p ?_ (mp20 h) ?_); focus rfl)
        | ((with_reducible refine e_p ?_ (mp21 h) ?_); focus rfl)
        | ((with_reducible refine e_ip ?_ ?_); focus (simp (disch := omega) only [b_all, sV_all, ↓reduceIte, Nat.reduceEqDiff, Nat.reduceLT, Nat.reduceLeDiff, Nat.reduceAdd, Nat.reduceMul, Nat.reduceSub, i_lit, eq_self, and_true, true_and, and_self, not_true_eq_false, not_false_eq_true, or_true, true_or, or_false, false_or, false_and, and_false, reduceCtorEq, Nat.add_left_cancel_iff, Nat.add_zero, Nat.zero_add, md_all h]; done))
        | ((with_reducible refine e_in ?_ ?_); focus (simp (disch := omega) only [b_all, sV_all, ↓reduceIte, Nat.reduceEqDiff, Nat.reduceLT, Nat.reduceLeDiff, Nat.reduceAdd, Nat.reduceMul, Nat.reduceSub, i_lit, eq_self, and_true, true_and, and_self, not_true_eq_false, not_false_eq_true, or_true, true_or, or_false, false_or, false_and, and_false, reduceCtorEq, Nat.add_left_cancel_iff, Nat.add_zero, Nat.zero_add, md_all h]; done))
        | fail)
      first | with_reducible rfl | simp (disch := omega) only [b_all, sV_all, ↓reduceIte, Nat.reduceEqDiff, Nat.reduceLT, Nat.reduceLeDiff, Nat.reduceAdd, Nat.reduceMul, Nat.reduceSub, i_lit, eq_self, and_true, true_and, and_self, not_true_eq_false, not_false_eq_true, or_true, true_or, or_false, false_or, false_and, and_false, reduceCtorEq, Nat.add_left_cancel_iff, Nat.add_zero, Nat.zero_add, md_all h]
    · have hlt : unl W t s o 3 (20 * s + o) < 4294967296 := by
        have : ∀ m, unl W t s m 3 (20 * s + o) < 4294967296 := by
          intro m
          induction m with
          | zero => exact hb _
          | succ m ihm =>
            unfold unl
            split
            · unfold U; split
              · omega
              · exact ihm
            · exact ihm
        exact this o
      by_cases c : unl W t s o 3 (20 * s + o) = t
      · have e0 : unl W t s (o + 1) = U (unl W t s o) 3 (20 * s + o) 4294967295 := by rw [unl, if_pos c]
        obtain ⟨M', e, hM⟩ := ih (o + 1) _ (by rw [e0]; exact su3 h _ _) (by omega) (by omega)
        refine ⟨M', ?_, hM⟩
        rw [← e, fX5_unlock_2]
        repeat (first
          | (with_reducible refine e_l1 ?_)
          | ((with_reducible refine e_k ?_ (mkM h) ?_); focus rfl)
          | ((with_reducible refine e_p ?_ (mp1 h) ?_); focus rfl)
          | ((with_reducible refine e_p ?_ (mp2 h) ?_); focus rfl)
          | ((with_reducible refine e_p ?_ (mp3 h) ?_); focus rfl)
          | ((with_reducible refine e_p ?_ (mp4 h) ?_); focus rfl)
          | ((with_reducible refine e_p ?_ (mp5 h) ?_); focus rfl)
          | ((with_reducible refine e_p ?_ (mp6 h) ?_); focus rfl)
          | ((with_reducible refine e_p ?_ (mp7 h) ?_); focus rfl)
          | ((with_reducible refine e_p ?_ (mp8 h) ?_); focus rfl)
          | ((with_reducible refine e_p ?_ (mp9 h) ?_); focus rfl)
          | ((with_reducible refine e_p ?_ (mp10 h) ?_); focus rfl)
          | ((with_reducible refine e_p ?_ (mp11 h) ?_); focus rfl)
          | ((with_reducible refine e_p ?_ (mp12 h) ?_); focus rfl)
          | ((with_reducible refine e_p ?_ (mp13 h) ?_); focus rfl)
          | ((with_reducible refine e_p ?_ (mp14 h) ?_); focus rfl)
          | ((with_reducible refine e_p ?_ (mp15 h) ?_); focus rfl)
          | ((with_reducible refine e_p ?_ (mp16 h) ?_); focus rfl)
          | ((with_reducible refine e_p ?_ (mp17 h) ?_); focus rfl)
          | ((with_reducible refine e_p ?_ (mp18 h) ?_); focus rfl)
          | ((with_reducible refine e_p ?_ (mp19 h) ?_); focus rfl)
          | ((with_reducible refine e_p ?_ (mp20 h) ?_); focus rfl)
          | ((with_reducible refine e_p ?_ (mp21 h) ?_); focus rfl)
          | ((with_reducible refine e_ip ?_ ?_); focus (simp (disch := omega) only [b_all, sV_all, ↓reduceIte, Nat.reduceEqDiff, Nat.reduceLT, Nat.reduceLeDiff, Nat.reduceAdd, Nat.reduceMul, Nat.reduceSub, i_lit, eq_self, and_true, true_and, and_self, not_true_eq_false, not_false_eq_true, or_true, true_or, or_false, false_or, false_and, and_false, reduceCtorEq, Nat.add_left_cancel_iff, Nat.add_zero, Nat.zero_add, md_all h, c]; done))
          | ((with_reducible refine e_in ?_ ?_); focus (simp (disch := omega) only [b_all, sV_all, ↓reduceIte, Nat.reduceEqDiff, Nat.reduceLT, Nat.reduceLeDiff, Nat.reduceAdd, Nat.reduceMul, Nat.reduceSub, i_lit, eq_self, and_true, true_and, and_self, not_true_eq_false, not_false_eq_true, or_true, true_or, or_false, false_or, false_and, and_false, reduceCtorEq, Nat.add_left_cancel_iff, Nat.add_zero, Nat.zero_add, md_all h, c]; done))
          | unfold fX5_unlock_35
          | fail)
        first | with_reducible rfl | simp (disch := omega) only [b_all, sV_all, ↓reduceIte, Nat.reduceEqDiff, Nat.reduceLT, Nat.reduceLeDiff, Nat.reduceAdd, Nat.reduceMul, Nat.reduceSub, i_lit, eq_self, and_true, true_and, and_self, not_true_eq_false, not_false_eq_true, or_true, true_or, or_false, false_or, false_and, and_false, reduceCtorEq, Nat.add_left_cancel_iff, Nat.add_zero, Nat.zero_add, md_all h, c]
      · have e0 : unl W t s (o + 1) = unl W t s o := by rw [unl, if_neg c]
        obtain ⟨M', e, hM⟩ := ih (o + 1) _ (by rw [e0]; exact h) (by omega) (by omega)
        refine ⟨M', ?_, hM⟩
        rw [← e, fX5_unlock_2]
        repeat (first
          | (with_reducible refine e_l1 ?_)
          | ((with_reducible refine e_k ?_ (mkM h) ?_); focus rfl)
          | ((with_reducible refine e_p ?_ (mp1 h) ?_); focus rfl)
          | ((with_reducible refine e_p ?_ (mp2 h) ?_); focus rfl)
          | ((with_reducible refine e_p ?_ (mp3 h) ?_); focus rfl)
          | ((with_reducible refine e_p ?_ (mp4 h) ?_); focus rfl)
          | ((with_reducible refine e_p ?_ (mp5 h) ?_); focus rfl)
          | ((with_reducible refine e_p ?_ (mp6 h) ?_); focus rfl)
          | ((with_reducible refine e_p ?_ (mp7 h) ?_); focus rfl)
          | ((with_reducible refine e_p ?_ (mp8 h) ?_); focus rfl)
          | ((with_reducible refine e_p ?_ (mp9 h) ?_); focus rfl)
          | ((with_reducible refine e_p ?_ (mp10 h) ?_); focus rfl)
          | ((with_reducible refine e_p ?_ (mp11 h) ?_); focus rfl)
          | ((with_reducible refine e_p ?_ (mp12 h) ?_); focus rfl)
          | ((with_reducible refine e_p ?_ (mp13 h) ?_); focus rfl)
          | ((with_reducible refine e_p ?_ (mp14 h) ?_); focus rfl)
          | ((with_reducible refine e_p ?_ (mp15 h) ?_); focus rfl)
          | ((with_reducible refine e_p ?_ (mp16 h) ?_); focus rfl)
          | ((with_reducible refine e_p ?_ (mp17 h) ?_); focus rfl)
          | ((with_reducible refine e_p ?_ (mp18 h) ?_); focus rfl)
          | ((with_reducible refine e_p ?_ (mp19 h) ?_); focus rfl)
          | ((with_reducible refine e_p ?_ (mp20 h) ?_); focus rfl)
          | ((with_reducible refine e_p ?_ (mp21 h) ?_); focus rfl)
          | ((with_reducible refine e_ip ?_ ?_); focus (simp (disch := omega) only [b_all, sV_all, ↓reduceIte, Nat.reduceEqDiff, Nat.reduceLT, Nat.reduceLeDiff, Nat.reduceAdd, Nat.reduceMul, Nat.reduceSub, i_lit, eq_self, and_true, true_and, and_self, not_true_eq_false, not_false_eq_true, or_true, true_or, or_false, false_or, false_and, and_false, reduceCtorEq, Nat.add_left_cancel_iff, Nat.add_zero, Nat.zero_add, md_all h]; done))
          | ((with_reducible refine e_in ?_ ?_); focus (simp (disch := omega) only [b_all, sV_all, ↓reduceIte, Nat.reduceEqDiff, Nat.reduceLT, Nat.reduceLeDiff, Nat.reduceAdd, Nat.reduceMul, Nat.reduceSub, i_lit, eq_self, and_true, true_and, and_self, not_true_eq_false, not_false_eq_true, or_true, true_or, or_false, false_or, false_and, and_false, reduceCtorEq, Nat.add_left_cancel_iff, Nat.add_zero, Nat.zero_add, md_all h]; done))
          | unfold fX5_unlock_35
          | fail)
        first | with_reducible rfl | simp (disch := omega) only [b_all, sV_all, ↓reduceIte, Nat.reduceEqDiff, Nat.reduceLT, Nat.reduceLeDiff, Nat.reduceAdd, Nat.reduceMul, Nat.reduceSub, i_lit, eq_self, and_true, true_and, and_self, not_true_eq_false, not_false_eq_true, or_true, true_or, or_false, false_or, false_and, and_false, reduceCtorEq, Nat.add_left_cancel_iff, Nat.add_zero, Nat.zero_add, md_all h]
theorem s_unlock (hk : 5000 ≤ k) (h : St x B C W M) (hb : ∀ j, W 3 j < 4294967296) {t s : Nat} (ht : t < 200) (hs : s < 5) : ∃ M', fX5_unlock x k (B + 25) (i32 t) (i32 s) M = some ((), M') ∧ St x B C (unl W t s 20) M' := s_unlock2 W hb ht hs k 0 M h (by omega) (by omega)
theorem s_lock2 (W : Ab) (hb : Bd W) {t s : Nat} (ht : t < 200) (hs : s < 5) : ∀ (n o : Nat) (M : Mm), St x B C (lk W t s o) M → o ≤ 20 → 20 < n + o → ∃ M', fX5_lock_2 x k n (B + 25) (i32 t) (i32 s) (i32 o) M = some ((), M') ∧ St x B C (lk W t s 20) M' := by
  have h0 := hb.1
  intro n
  induction n with
  | zero => intro j M _ h1 h2; omega
  | succ n ih =>
    intro o M h hj hn
    by_cases hc : 20 ≤ o
    · obtain rfl : o = 20 := by omega
      refine ⟨M, ?_, h⟩
      rw [fX5_lock_2]
      repeat (first
        | (with_reducible refine e_l1 ?_)
        | ((with_reducible refine e_k ?_ (mkM h) ?_); focus rfl)
        | ((with_reducible refine e_p ?_ (mp1 h) ?_); focus rfl)
        | ((with_reducible refine e_p ?_ (mp2 h) ?_); focus rfl)
        | ((with_reducible refine e_p ?_ (mp3 h) ?_); focus rfl)
        | ((with_reducible refine e_p ?_ (mp4 h) ?_); focus rfl)
        | ((with_reducible refine e_p ?_ (mp5 h) ?_); focus rfl)
        | ((with_reducible refine e_p ?_ (mp6 h) ?_); focus rfl)
        | ((with_reducible refine e_p ?_ (mp7 h) ?_); focus rfl)
        | ((with_reducible refine e_p ?_ (mp8 h) ?_); focus rfl)
        | ((with_reducible refine e_p ?_ (mp9 h) ?_); focus rfl)
        | ((with_reducible refine e_p ?_ (mp10 h) ?_); focus rfl)
        | ((with_reducible refine e_p ?_ (mp11 h) ?_); focus rfl)
        | ((with_reducible refine e_p ?_ (mp12 h) ?_); focus rfl)
        | ((with_reducible refine e_p ?_ (mp13 h) ?_); focus rfl)
        | ((with_reducible refine e_p ?_ (mp14 h) ?_); focus rfl)
        | ((with_reducible refine e_p ?_ (mp15 h) ?_); focus rfl)
        | ((with_reducible refine e_p ?_ (mp16 h) ?_); focus rfl)
        | ((with_reducible refine e_p ?_ (mp17 h) ?_); focus rfl)
        | ((with_reducible refine e_p ?_ (mp18 h) ?_); focus rfl)
        | ((with_reducible refine e_p ?_ (mp19 h) ?_); focus rfl)
        | ((with_reducible refine e_p ?_ (mp20 h) ?_); focus rfl)
        | ((with_reducible refine e_p ?_ (mp21 h) ?_); focus rfl)
        | ((with_reducible refine e_ip ?_ ?_); focus (simp (disch := omega) only [b_all, sV_all, ↓reduceIte, Nat.reduceEqDiff, Nat.reduceLT, Nat.reduceLeDiff, Nat.reduceAdd, Nat.reduceMul, Nat.reduceSub, i_lit, eq_self, and_true, true_and, and_self, not_true_eq_false, not_false_eq_true, or_true, true_or, or_false, false_or, false_and, and_false, reduceCtorEq, Nat.add_left_cancel_iff, Nat.add_zero, Nat.zero_add, md_all h]; done))
        | ((with_reducible refine e_in ?_ ?_); focus (simp (disch := omega) only [b_all, sV_all, ↓reduceIte, Nat.reduceEqDiff, Nat.reduceLT, Nat.reduceLeDiff, Nat.reduceAdd, Nat.reduceMul, Nat.reduceSub, i_lit, eq_self, and_true, true_and, and_self, not_true_eq_false, not_false_eq_true, or_true, true_or, or_false, false_or, false_and, and_false, reduceCtorEq, Nat.add_left_cancel_iff, Nat.add_zero, Nat.zero_add, md_all h]; done))
        | fail)
      first | with_reducible rfl | simp (disch := omega) only [b_all, sV_all, ↓reduceIte, Nat.reduceEqDiff, Nat.reduceLT, Nat.reduceLeDiff, Nat.reduceAdd, Nat.reduceMul, Nat.reduceSub, i_lit, eq_self, and_true, true_and, and_self, not_true_eq_false, not_false_eq_true, or_true, true_or, or_false, false_or, false_and, and_false, reduceCtorEq, Nat.add_left_cancel_iff, Nat.add_zero, Nat.zero_add, md_all h]
    · have e13 : lk W t s o 13 (20 * t + o) = W 13 (20 * t + o) := lk_r _ _ _ (by omega) _ _
      have e00 : lk W t s o 0 0 = W 0 0 := lk_r _ _ _ (by omega) _ _
      have h13 : W 13 (20 * t + o) < 2 := hb.r (by omega) _
      have hmod : o % W 0 0 < W 0 0 := Nat.mod_lt _ (by omega)
      by_cases c : W 13 (20 * t + o) ≠ 0 ∧ o % W 0 0 = s
      · have e0 : lk W t s (o + 1) = U (lk W t s o) 3 (20 * s + o) t := by rw [lk, if_pos c]
        obtain ⟨M', e, hM⟩ := ih (o + 1) _ (by rw [e0]; exact su3 h _ _) (by omega) (by omega)
        refine ⟨M', ?_, hM⟩
        rw [← e, fX5_lock_2]
        repeat (first
          | (with_reducible refine e_l1 ?_)
          | ((with_reducible refine e_k ?_ (mkM h) ?_); focus rfl)
          | ((with_reducible refine e_p ?_ (mp1 h) ?_); focus rfl)
          | ((with_reducible refine e_p ?_ (mp2 h) ?_); focus rfl)
          | ((with_reducible refine e_p ?_ (mp3 h) ?_); focus rfl)
          | ((with_reducible refine e_p ?_ (mp4 h) ?_); focus rfl)
          | ((with_reducible refine e_p ?_ (mp5 h) ?_); focus rfl)
          | ((with_reducible refine e_p ?_ (mp6 h) ?_); focus rfl)
          | ((with_reducible refine e_p ?_ (mp7 h) ?_); focus rfl)
          | ((with_reducible refine e_p ?_ (mp8 h) ?_); focus rfl)
          | ((with_reducible refine e_p ?_ (mp9 h) ?_); focus rfl)
          | ((with_reducible refine e_p ?_ (mp10 h) ?_); focus rfl)
          | ((with_reducible refine e_p ?_ (mp11 h) ?_); focus rfl)
          | ((with_reducible refine e_p ?_ (mp12 h) ?_); focus rfl)
          | ((with_reducible refine e_p ?_ (mp13 h) ?_); focus rfl)
          | ((with_reducible refine e_p ?_ (mp14 h) ?_); focus rfl)
          | ((with_reducible refine e_p ?_ (mp15 h) ?_); focus rfl)
          | ((with_reducible refine e_p ?_ (mp16 h) ?_); focus rfl)
          | ((with_reducible refine e_p ?_ (mp17 h) ?_); focus rfl)
          | ((with_reducible refine e_p ?_ (mp18 h) ?_); focus rfl)
          | ((with_reducible refine e_p ?_ (mp19 h) ?_); focus rfl)
          | ((with_reducible refine e_p ?_ (mp20 h) ?_); focus rfl)
          | ((with_reducible refine e_p ?_ (mp21 h) ?_); focus rfl)
          | ((with_reducible refine e_ip ?_ ?_); focus (simp (disch := omega) only [b_all, sV_all, ↓reduceIte, Nat.reduceEqDiff, Nat.reduceLT, Nat.reduceLeDiff, Nat.reduceAdd, Nat.reduceMul, Nat.reduceSub, i_lit, eq_self, and_true, true_and, and_self, not_true_eq_false, not_false_eq_true, or_true, true_or, or_false, false_or, false_and, and_false, reduceCtorEq, Nat.add_left_cancel_iff, Nat.add_zero, Nat.zero_add, md_all h, e13, e00]; done))
          | ((with_reducible refine e_in ?_ ?_); focus (simp (disch := omega) only [b_all, sV_all, ↓reduceIte, Nat.reduceEqDiff, Nat.reduceLT, Nat.reduceLeDiff, Nat.reduceAdd, Nat.reduceMul, Nat.reduceSub, i_lit, eq_self, and_true, true_and, and_self, not_true_eq_false, not_false_eq_true, or_true, true_or, or_false, false_or, false_and, and_false, reduceCtorEq, Nat.add_left_cancel_iff, Nat.add_zero, Nat.zero_add, md_all h, e13, e00]; done))
          | unfold fX5_lock_44
          | fail)
        first | with_reducible rfl | simp (disch := omega) only [b_all, sV_all, ↓reduceIte, Nat.reduceEqDiff, Nat.reduceLT, Nat.reduceLeDiff, Nat.reduceAdd, Nat.reduceMul, Nat.reduceSub, i_lit, eq_self, and_true, true_and, and_self, not_true_eq_false, not_false_eq_true, or_true, true_or, or_false, false_or, false_and, and_false, reduceCtorEq, Nat.add_left_cancel_iff, Nat.add_zero, Nat.zero_add, md_all h, e13, e00]
      · have e0 : lk W t s (o + 1) = lk W t s o := by rw [lk, if_neg c]
        obtain ⟨M', e, hM⟩ := ih (o + 1) _ (by rw [e0]; exact h) (by omega) (by omega)
        refine ⟨M', ?_, hM⟩
        rw [← e, fX5_lock_2]
        by_cases c1 : W 13 (20 * t + o) = 0
        · repeat (first
            | (with_reducible refine e_l1 ?_)
            | ((with_reducible refine e_k ?_ (mkM h) ?_); focus rfl)
            | ((with_reducible refine e_p ?_ (mp1 h) ?_); focus rfl)
            | ((with_reducible refine e_p ?_ (mp2 h) ?_); focus rfl)
            | ((with_reducible refine e_p ?_ (mp3 h) ?_); focus rfl)
            | ((with_reducible refine e_p ?_ (mp4 h) ?_); focus rfl)
            | ((with_reducible refine e_p ?_ (mp5 h) ?_); focus rfl)
            | ((with_reducible refine e_p ?_ (mp6 h) ?_); focus rfl)
            | ((with_reducible refine e_p ?_ (mp7 h) ?_); focus rfl)
            | ((with_reducible refine e_p ?_ (mp8 h) ?_); focus rfl)
            | ((with_reducible refine e_p ?_ (mp9 h) ?_); focus rfl)
            | ((with_reducible refine e_p ?_ (mp10 h) ?_); focus rfl)
            | ((with_reducible refine e_p ?_ (mp11 h) ?_); focus rfl)
            | ((with_reducible refine e_p ?_ (mp12 h) ?_); focus rfl)
            | ((with_reducible refine e_p ?_ (mp13 h) ?_); focus rfl)
            | ((with_reducible refine e_p ?_ (mp14 h) ?_); focus rfl)
            | ((with_reducible refine e_p ?_ (mp15 h) ?_); focus rfl)
            | ((with_reducible refine e_p ?_ (mp16 h) ?_); focus rfl)
            | ((with_reducible refine e_p ?_ (mp17 h) ?_); focus rfl)
            | ((with_reducible refine e_p ?_ (mp18 h) ?_); focus rfl)
            | ((with_reducible refine e_p ?_ (mp19 h) ?_); focus rfl)
            | ((with_reducible refine e_p ?_ (mp20 h) ?_); focus rfl)
            | ((with_reducible refine e_p ?_ (mp21 h) ?_); focus rfl)
            | ((with_reducible refine e_ip ?_ ?_); focus (simp (disch := omega) only [b_all, sV_all, ↓reduceIte, Nat.reduceEqDiff, Nat.reduceLT, Nat.reduceLeDiff, Nat.reduceAdd, Nat.reduceMul, Nat.reduceSub, i_lit, eq_self, and_true, true_and, and_self, not_true_eq_false, not_false_eq_true, or_true, true_or, or_false, false_or, false_and, and_false, reduceCtorEq, Nat.add_left_cancel_iff, Nat.add_zero, Nat.zero_add, md_all h, e13, e00]; done))
            | ((with_reducible refine e_in ?_ ?_); focus (simp (disch := omega) only [b_all, sV_all, ↓reduceIte, Nat.reduceEqDiff, Nat.reduceLT, Nat.reduceLeDiff, Nat.reduceAdd, Nat.reduceMul, Nat.reduceSub, i_lit, eq_self, and_true, true_and, and_self, not_true_eq_false, not_false_eq_true, or_true, true_or, or_false, false_or, false_and, and_false, reduceCtorEq, Nat.add_left_cancel_iff, Nat.add_zero, Nat.zero_add, md_all h, e13, e00]; done))
            | unfold fX5_lock_44
            | fail)
          first | with_reducible rfl | simp (disch := omega) only [b_all, sV_all, ↓reduceIte, Nat.reduceEqDiff, Nat.reduceLT, Nat.reduceLeDiff, Nat.reduceAdd, Nat.reduceMul, Nat.reduceSub, i_lit, eq_self, and_true, true_and, and_self, not_true_eq_false, not_false_eq_true, or_true, true_or, or_false, false_or, false_and, and_false, reduceCtorEq, Nat.add_left_cancel_iff, Nat.add_zero, Nat.zero_add, md_all h, e13, e00]
        · have c2 : ¬ o % W 0 0 = s := fun z => c ⟨c1, z⟩
          repeat (first
            | (with_reducible refine e_l1 ?_)
            | ((with_reducible refine e_k ?_ (mkM h) ?_); focus rfl)
            | ((with_reducible refine e_p ?_ (mp1 h) ?_); focus rfl)
            | ((with_reducible refine e_p ?_ (mp2 h) ?_); focus rfl)
            | ((with_reducible refine e_p ?_ (mp3 h) ?_); focus rfl)
            | ((with_reducible refine e_p ?_ (mp4 h) ?_); focus rfl)
            | ((with_reducible refine e_p ?_ (mp5 h) ?_); focus rfl)
            | ((with_reducible refine e_p ?_ (mp6 h) ?_); focus rfl)
            | ((with_reducible refine e_p ?_ (mp7 h) ?_); focus rfl)
            | ((with_reducible refine e_p ?_ (mp8 h) ?_); focus rfl)
            | ((with_reducible refine e_p ?_ (mp9 h) ?_); focus rfl)
            | ((with_reducible refine e_p ?_ (mp10 h) ?_); focus rfl)
            | ((with_reducible refine e_p ?_ (mp11 h) ?_); focus rfl)
            | ((with_reducible refine e_p ?_ (mp12 h) ?_); focus rfl)
            | ((with_reducible refine e_p ?_ (mp13 h) ?_); focus rfl)
            | ((with_reducible refine e_p ?_ (mp14 h) ?_); focus rfl)
            | ((with_reducible refine e_p ?_ (mp15 h) ?_); focus rfl)
            | ((with_reducible refine e_p ?_ (mp16 h) ?_); focus rfl)
            | ((with_reducible refine e_p ?_ (mp17 h) ?_); focus rfl)
            | ((with_reducible refine e_p ?_ (mp18 h) ?_); focus rfl)
            | ((with_reducible refine e_p ?_ (mp19 h) ?_); focus rfl)
            | ((with_reducible refine e_p ?_ (mp20 h) ?_); focus rfl)
            | ((with_reducible refine e_p ?_ (mp21 h) ?_); focus rfl)
            | ((with_reducible refine e_ip ?_ ?_); focus (simp (disch := omega) only [b_all, sV_all, ↓reduceIte, Nat.reduceEqDiff, Nat.reduceLT, Nat.reduceLeDiff, Nat.reduceAdd, Nat.reduceMul, Nat.reduceSub, i_lit, eq_self, and_true, true_and, and_self, not_true_eq_false, not_false_eq_true, or_true, true_or, or_false, false_or, false_and, and_false, reduceCtorEq, Nat.add_left_cancel_iff, Nat.add_zero, Nat.zero_add, md_all h, e13, e00]; done))
            | ((with_reducible refine e_in ?_ ?_); focus (simp (disch := omega) only [b_all, sV_all, ↓reduceIte, Nat.reduceEqDiff, Nat.reduceLT, Nat.reduceLeDiff, Nat.reduceAdd, Nat.reduceMul, Nat.reduceSub, i_lit, eq_self, and_true, true_and, and_self, not_true_eq_false, not_false_eq_true, or_true, true_or, or_false, false_or, false_and, and_false, reduceCtorEq, Nat.add_left_cancel_iff, Nat.add_zero, Nat.zero_add, md_all h, e13, e00]; done))
            | unfold fX5_lock_44
            | fail)
          first | with_reducible rfl | simp (disch := omega) only [b_all, sV_all, ↓reduceIte, Nat.reduceEqDiff, Nat.reduceLT, Nat.reduceLeDiff, Nat.reduceAdd, Nat.reduceMul, Nat.reduceSub, i_lit, eq_self, and_true, true_and, and_self, not_true_eq_false, not_false_eq_true, or_true, true_or, or_false, false_or, false_and, and_false, reduceCtorEq, Nat.add_left_cancel_iff, Nat.add_zero, Nat.zero_add, md_all h, e13, e00]
theorem s_lock (hk : 5000 ≤ k) (h : St x B C W M) (hb : Bd W) {t s : Nat} (ht : t < 200) (hs : s < 5) : ∃ M', fX5_lock x k (B + 25) (i32 t) (i32 s) M = some ((), M') ∧ St x B C (lk W t s 20) M' := s_lock2 W hb ht hs k 0 M h (by omega) (by omega)
theorem s_fits35 (h : St x B C W M) (hb : Bd W) {t s o : Nat} (ht : t < 200) (hs : s < 5) (ho : o < 20) (P : Prop) : ∀ n u, u ≤ W 0 5 → W 0 5 < n + u → fX5_fits_35 x k n (B + 25) (i32 t) (i32 s) (i32 o) (i32 (bp (al P (okU W t s o) u))) (i32 u) M = some (i32 (bp (al P (okU W t s o) (W 0 5))), M) := by
  have h0 := hb.1
  intro n
  induction n with
  | zero => intro u h1 h2; omega
  | succ n ih =>
    intro u hu hn
    have hle := bp_le (al P (okU W t s o) u)
    by_cases hc : W 0 5 ≤ u
    · obtain rfl : u = W 0 5 := by omega
      rw [fX5_fits_35]
      repeat (first
        | (with_reducible refine e_l1 ?_)
        | ((with_reducible refine e_k ?_ (mkM h) ?_); focus rfl)
        | ((with_reducible refine e_p ?_ (mp1 h) ?_); focus rfl)
        | ((with_reducible refine e_p ?_ (mp2 h) ?_); focus rfl)
        | ((with_reducible refine e_p ?_ (mp3 h) ?_); focus rfl)
        | ((with_reducible refine e_p ?_ (mp4 h) ?_); focus rfl)
        | ((with_reducible refine e_p ?_ (mp5 h) ?_); focus rfl)
        | ((with_reducible refine e_p ?_ (mp6 h) ?_); focus rfl)
        | ((with_reducible refine e_p ?_ (mp7 h) ?_); focus rfl)
        | ((with_reducible refine e_p ?_ (mp8 h) ?_); focus rfl)
        | ((with_reducible refine e_p ?_ (mp9 h) ?_); focus rfl)
        | ((with_reducible refine e_p ?_ (mp10 h) ?_); focus rfl)
        | ((with_reducible refine e_p ?_ (mp11 h) ?_); focus rfl)
        | ((with_reducible refine e_p ?_ (mp12 h) ?_); focus rfl)
        | ((with_reducible refine e_p ?_ (mp13 h) ?_); focus rfl)
        | ((with_reducible refine e_p ?_ (mp14 h) ?_); focus rfl)
        | ((with_reducible refine e_p ?_ (mp15 h) ?_); focus rfl)
        | ((with_reducible refine e_p ?_ (mp16 h) ?_); focus rfl)
        | ((with_reducible refine e_p ?_ (mp17 h) ?_); focus rfl)
        | ((with_reducible refine e_p ?_ (mp18 h) ?_); focus rfl)
        | ((with_reducible refine e_p ?_ (mp19 h) ?_); focus rfl)
        | ((with_reducible refine e_p ?_ (mp20 h) ?_); focus rfl)
        | ((with_reducible refine e_p ?_ (mp21 h) ?_); focus rfl)
        | ((with_reducible refine e_ip ?_ ?_); focus (simp (disch := omega) only [b_all, sV_all, ↓reduceIte, Nat.reduceEqDiff, Nat.reduceLT, Nat.reduceLeDiff, Nat.reduceAdd, Nat.reduceMul, Nat.reduceSub, i_lit, eq_self, and_true, true_and, and_self, not_true_eq_false, not_false_eq_true, or_true, true_or, or_false, false_or, false_and, and_false, reduceCtorEq, Nat.add_left_cancel_iff, Nat.add_zero, Nat.zero_add, md_all h]; done))
        | ((with_reducible refine e_in ?_ ?_); focus (simp (disch := omega) only [b_all, sV_all, ↓reduceIte, Nat.reduceEqDiff, Nat.reduceLT, Nat.reduceLeDiff, Nat.reduceAdd, Nat.reduceMul, Nat.reduceSub, i_lit, eq_self, and_true, true_and, and_self, not_true_eq_false, not_false_eq_true, or_true, true_or, or_false, false_or, false_and, and_false, reduceCtorEq, Nat.add_left_cancel_iff, Nat.add_zero, Nat.zero_add, md_all h]; done))
        | fail)
      first | with_reducible rfl | simp (disch := omega) only [b_all, sV_all, ↓reduceIte, Nat.reduceEqDiff, Nat.reduceLT, Nat.reduceLeDiff, Nat.reduceAdd, Nat.reduceMul, Nat.reduceSub, i_lit, eq_self, and_true, true_and, and_self, not_true_eq_false, not_false_eq_true, or_true, true_or, or_false, false_or, false_and, and_false, reduceCtorEq, Nat.add_left_cancel_iff, Nat.add_zero, Nat.zero_add, md_all h]
    · have e := ih (u + 1) (by omega) (by omega)
      rw [← e, fX5_fits_35]
      have h8 : W 8 (5 * u + s) < 1073741824 := hb.r (by omega) _
      have h13 : W 13 (20 * u + o) < 2 := hb.r (by omega) _
      by_cases c1 : W 8 (5 * u + s) = 0
      · rw [al_t (show okU W t s o u from fun z => by omega)]
        repeat (first
          | (with_reducible refine e_l1 ?_)
          | ((with_reducible refine e_k ?_ (mkM h) ?_); focus rfl)
          | ((with_reducible refine e_p ?_ (mp1 h) ?_); focus rfl)
          | ((with_reducible refine e_p ?_ (mp2 h) ?_); focus rfl)
          | ((with_reducible refine e_p ?_ (mp3 h) ?_); focus rfl)
          | ((with_reducible refine e_p ?_ (mp4 h) ?_); focus rfl)
          | ((with_reducible refine e_p ?_ (mp5 h) ?_); focus rfl)
          | ((with_reducible refine e_p ?_ (mp6 h) ?_); focus rfl)
          | ((with_reducible refine e_p ?_ (mp7 h) ?_); focus rfl)
          | ((with_reducible refine e_p ?_ (mp8 h) ?_); focus rfl)
          | ((with_reducible refine e_p ?_ (mp9 h) ?_); focus rfl)
          | ((with_reducible refine e_p ?_ (mp10 h) ?_); focus rfl)
          | ((with_reducible refine e_p ?_ (mp11 h) ?_); focus rfl)
          | ((with_reducible refine e_p ?_ (mp12 h) ?_); focus rfl)
          | ((with_reducible refine e_p ?_ (mp13 h) ?_); focus rfl)
          | ((with_reducible refine e_p ?_ (mp14 h) ?_); focus rfl)
          | ((with_reducible refine e_p ?_ (mp15 h) ?_); focus rfl)
          | ((with_reducible refine e_p ?_ (mp16 h) ?_); focus rfl)
          | ((with_reducible refine e_p ?_ (mp17 h) ?_); focus rfl)
          | ((with_reducible refine e_p ?_ (mp18 h) ?_); focus rfl)
          | ((with_reducible refine e_p ?_ (mp19 h) ?_); focus rfl)
          | ((with_reducible refine e_p ?_ (mp20 h) ?_); focus rfl)
          | ((with_reducible refine e_p ?_ (mp21 h) ?_); focus rfl)
          | ((with_reducible refine e_ip ?_ ?_); focus (simp (disch := omega) only [b_all, sV_all, ↓reduceIte, Nat.reduceEqDiff, Nat.reduceLT, Nat.reduceLeDiff, Nat.reduceAdd, Nat.reduceMul, Nat.reduceSub, i_lit, eq_self, and_true, true_and, and_self, not_true_eq_false, not_false_eq_true, or_true, true_or, or_false, false_or, false_and, and_false, reduceCtorEq, Nat.add_left_cancel_iff, Nat.add_zero, Nat.zero_add, md_all h]; done))
          | ((with_reducible refine e_in ?_ ?_); focus (simp (disch := omega) only [b_all, sV_all, ↓reduceIte, Nat.reduceEqDiff, Nat.reduceLT, Nat.reduceLeDiff, Nat.reduceAdd, Nat.reduceMul, Nat.reduceSub, i_lit, eq_self, and_true, true_and, and_self, not_true_eq_false, not_false_eq_true, or_true, true_or, or_false, false_or, false_and, and_false, reduceCtorEq, Nat.add_left_cancel_iff, Nat.add_zero, Nat.zero_add, md_all h]; done))
          | unfold fX5_fits_86
          | fail)
        first | with_reducible rfl | simp (disch := omega) only [b_all, sV_all, ↓reduceIte, Nat.reduceEqDiff, Nat.reduceLT, Nat.reduceLeDiff, Nat.reduceAdd, Nat.reduceMul, Nat.reduceSub, i_lit, eq_self, and_true, true_and, and_self, not_true_eq_false, not_false_eq_true, or_true, true_or, or_false, false_or, false_and, and_false, reduceCtorEq, Nat.add_left_cancel_iff, Nat.add_zero, Nat.zero_add, md_all h]
      · by_cases c2 : W 13 (20 * u + o) = 0
        · rw [al_t (show okU W t s o u from fun _ z => absurd c2 z)]
          repeat (first
            | (with_reducible refine e_l1 ?_)
            | ((with_reducible refine e_k ?_ (mkM h) ?_); focus rfl)
            | ((with_reducible refine e_p ?_ (mp1 h) ?_); focus rfl)
            | ((with_reducible refine e_p ?_ (mp2 h) ?_); focus rfl)
            | ((with_reducible refine e_p ?_ (mp3 h) ?_); focus rfl)
            | ((with_reducible refine e_p ?_ (mp4 h) ?_); focus rfl)
            | ((with_reducible refine e_p ?_ (mp5 h) ?_); focus rfl)
            | ((with_reducible refine e_p ?_ (mp6 h) ?_); focus rfl)
            | ((with_reducible refine e_p ?_ (mp7 h) ?_); focus rfl)
            | ((with_reducible refine e_p ?_ (mp8 h) ?_); focus rfl)
            | ((with_reducible refine e_p ?_ (mp9 h) ?_); focus rfl)
            | ((with_reducible refine e_p ?_ (mp10 h) ?_); focus rfl)
            | ((with_reducible refine e_p ?_ (mp11 h) ?_); focus rfl)
            | ((with_reducible refine e_p ?_ (mp12 h) ?_); focus rfl)
            | ((with_reducible refine e_p ?_ (mp13 h) ?_); focus rfl)
            | ((with_reducible refine e_p ?_ (mp14 h) ?_); focus rfl)
            | ((with_reducible refine e_p ?_ (mp15 h) ?_); focus rfl)
            | ((with_reducible refine e_p ?_ (mp16 h) ?_); focus rfl)
            | ((with_reducible refine e_p ?_ (mp17 h) ?_); focus rfl)
            | ((with_reducible refine e_p ?_ (mp18 h) ?_); focus rfl)
            | ((with_reducible refine e_p ?_ (mp19 h) ?_); focus rfl)
            | ((with_reducible refine e_p ?_ (mp20 h) ?_); focus rfl)
            | ((with_reducible refine e_p ?_ (mp21 h) ?_); focus rfl)
            | ((with_reducible refine e_ip ?_ ?_); focus (simp (disch := omega) only [b_all, sV_all, ↓reduceIte, Nat.reduceEqDiff, Nat.reduceLT, Nat.reduceLeDiff, Nat.reduceAdd, Nat.reduceMul, Nat.reduceSub, i_lit, eq_self, and_true, true_and, and_self, not_true_eq_false, not_false_eq_true, or_true, true_or, or_false, false_or, false_and, and_false, reduceCtorEq, Nat.add_left_cancel_iff, Nat.add_zero, Nat.zero_add, md_all h]; done))
            | ((with_reducible refine e_in ?_ ?_); focus (simp (disch := omega) only [b_all, sV_all, ↓reduceIte, Nat.reduceEqDiff, Nat.reduceLT, Nat.reduceLeDiff, Nat.reduceAdd, Nat.reduceMul, Nat.reduceSub, i_lit, eq_self, and_true, true_and, and_self, not_true_eq_false, not_false_eq_true, or_true, true_or, or_false, false_or, false_and, and_false, reduceCtorEq, Nat.add_left_cancel_iff, Nat.add_zero, Nat.zero_add, md_all h]; done))
            | unfold fX5_fits_86
            | fail)
          first | with_reducible rfl | simp (disch := omega) only [b_all, sV_all, ↓reduceIte, Nat.reduceEqDiff, Nat.reduceLT, Nat.reduceLeDiff, Nat.reduceAdd, Nat.reduceMul, Nat.reduceSub, i_lit, eq_self, and_true, true_and, and_self, not_true_eq_false, not_false_eq_true, or_true, true_or, or_false, false_or, false_and, and_false, reduceCtorEq, Nat.add_left_cancel_iff, Nat.add_zero, Nat.zero_add, md_all h]
        · have es := s_sees (k := k) h hb ht (show u < 200 by omega)
          by_cases c3 : sees W t u
          · rw [al_t (show okU W t s o u from fun _ _ => c3)]
            repeat (first
              | (with_reducible refine e_l1 ?_)
              | ((with_reducible refine e_k ?_ (mkM h) ?_); focus rfl)
              | ((with_reducible refine e_p ?_ (mp1 h) ?_); focus rfl)
              | ((with_reducible refine e_p ?_ (mp2 h) ?_); focus rfl)
              | ((with_reducible refine e_p ?_ (mp3 h) ?_); focus rfl)
              | ((with_reducible refine e_p ?_ (mp4 h) ?_); focus rfl)
              | ((with_reducible refine e_p ?_ (mp5 h) ?_); focus rfl)
              | ((with_reducible refine e_p ?_ (mp6 h) ?_); focus rfl)
              | ((with_reducible refine e_p ?_ (mp7 h) ?_); focus rfl)
              | ((with_reducible refine e_p ?_ (mp8 h) ?_); focus rfl)
              | ((with_reducible refine e_p ?_ (mp9 h) ?_); focus rfl)
              | ((with_reducible refine e_p ?_ (mp10 h) ?_); focus rfl)
              | ((with_reducible refine e_p ?_ (mp11 h) ?_); focus rfl)
              | ((with_reducible refine e_p ?_ (mp12 h) ?_); focus rfl)
              | ((with_reducible refine e_p ?_ (mp13 h) ?_); focus rfl)
              | ((with_reducible refine e_p ?_ (mp14 h) ?_); focus rfl)
              | ((with_reducible refine e_p ?_ (mp15 h) ?_); focus rfl)
              | ((with_reducible refine e_p ?_ (mp16 h) ?_); focus rfl)
              | ((with_reducible refine e_p ?_ (mp17 h) ?_); focus rfl)
              | ((with_reducible refine e_p ?_ (mp18 h) ?_); focus rfl)
              | ((with_reducible refine e_p ?_ (mp19 h) ?_); focus rfl)
              | ((with_reducible refine e_p ?_ (mp20 h) ?_); focus rfl)
              | ((with_reducible refine e_p ?_ (mp21 h) ?_); focus rfl)
              | ((with_reducible refine e_o2 ?_ es ?_); focus (first | with_reducible rfl | (simp (disch := omega) only [b_all, sV_all, ↓reduceIte, Nat.reduceEqDiff, Nat.reduceLT, Nat.reduceLeDiff, Nat.reduceAdd, Nat.reduceMul, Nat.reduceSub, i_lit, eq_self, and_true, true_and, and_self, not_true_eq_false, not_false_eq_true, or_true, true_or, or_false, false_or, false_and, and_false, reduceCtorEq, Nat.add_left_cancel_iff, Nat.add_zero, Nat.zero_add, md_all h, c3]; done)))
              | ((with_reducible refine e_ip ?_ ?_); focus (simp (disch := omega) only [b_all, sV_all, ↓reduceIte, Nat.reduceEqDiff, Nat.reduceLT, Nat.reduceLeDiff, Nat.reduceAdd, Nat.reduceMul, Nat.reduceSub, i_lit, eq_self, and_true, true_and, and_self, not_true_eq_false, not_false_eq_true, or_true, true_or, or_false, false_or, false_and, and_false, reduceCtorEq, Nat.add_left_cancel_iff, Nat.add_zero, Nat.zero_add, md_all h, c3]; done))
              | ((with_reducible refine e_in ?_ ?_); focus (simp (disch := omega) only [b_all, sV_all, ↓reduceIte, Nat.reduceEqDiff, Nat.reduceLT, Nat.reduceLeDiff, Nat.reduceAdd, Nat.reduceMul, Nat.reduceSub, i_lit, eq_self, and_true, true_and, and_self, not_true_eq_false, not_false_eq_true, or_true, true_or, or_false, false_or, false_and, and_false, reduceCtorEq, Nat.add_left_cancel_iff, Nat.add_zero, Nat.zero_add, md_all h, c3]; done))
              | unfold fX5_fits_86
              | fail)
            first | with_reducible rfl | simp (disch := omega) only [b_all, sV_all, ↓reduceIte, Nat.reduceEqDiff, Nat.reduceLT, Nat.reduceLeDiff, Nat.reduceAdd, Nat.reduceMul, Nat.reduceSub, i_lit, eq_self, and_true, true_and, and_self, not_true_eq_false, not_false_eq_true, or_true, true_or, or_false, false_or, false_and, and_false, reduceCtorEq, Nat.add_left_cancel_iff, Nat.add_zero, Nat.zero_add, md_all h, c3]
          · rw [al_f (show ¬ okU W t s o u from fun z => c3 (z (by omega) c2))]
            repeat (first
              | (with_reducible refine e_l1 ?_)
              | ((with_reducible refine e_k ?_ (mkM h) ?_); focus rfl)
              | ((with_reducible refine e_p ?_ (mp1 h) ?_); focus rfl)
              | ((with_reducible refine e_p ?_ (mp2 h) ?_); focus rfl)
              | ((with_reducible refine e_p ?_ (mp3 h) ?_); focus rfl)
              | ((with_reducible refine e_p ?_ (mp4 h) ?_); focus rfl)
              | ((with_reducible refine e_p ?_ (mp5 h) ?_); focus rfl)
              | ((with_reducible refine e_p ?_ (mp6 h) ?_); focus rfl)
              | ((with_reducible refine e_p ?_ (mp7 h) ?_); focus rfl)
              | ((with_reducible refine e_p ?_ (mp8 h) ?_); focus rfl)
              | ((with_reducible refine e_p ?_ (mp9 h) ?_); focus rfl)
              | ((with_reducible refine e_p ?_ (mp10 h) ?_); focus rfl)
              | ((with_reducible refine e_p ?_ (mp11 h) ?_); focus rfl)
              | ((with_reducible refine e_p ?_ (mp12 h) ?_); focus rfl)
              | ((with_reducible refine e_p ?_ (mp13 h) ?_); focus rfl)
              | ((with_reducible refine e_p ?_ (mp14 h) ?_); focus rfl)
              | ((with_reducible refine e_p ?_ (mp15 h) ?_); focus rfl)
              | ((with_reducible refine e_p ?_ (mp16 h) ?_); focus rfl)
              | ((with_reducible refine e_p ?_ (mp17 h) ?_); focus rfl)
              | ((with_reducible refine e_p ?_ (mp18 h) ?_); focus rfl)
              | ((with_reducible refine e_p ?_ (mp19 h) ?_); focus rfl)
              | ((with_reducible refine e_p ?_ (mp20 h) ?_); focus rfl)
              | ((with_reducible refine e_p ?_ (mp21 h) ?_); focus rfl)
              | ((with_reducible refine e_o2 ?_ es ?_); focus (first | with_reducible rfl | (simp (disch := omega) only [b_all, sV_all, ↓reduceIte, Nat.reduceEqDiff, Nat.reduceLT, Nat.reduceLeDiff, Nat.reduceAdd, Nat.reduceMul, Nat.reduceSub, i_lit, eq_self, and_true, true_and, and_self, not_true_eq_false, not_false_eq_true, or_true, true_or, or_false, false_or, false_and, and_false, reduceCtorEq, Nat.add_left_cancel_iff, Nat.add_zero, Nat.zero_add, md_all h, c3]; done)))
              | ((with_reducible refine e_ip ?_ ?_); focus (simp (disch := omega) only [b_all, sV_all, ↓reduceIte, Nat.reduceEqDiff, Nat.reduceLT, Nat.reduceLeDiff, Nat.reduceAdd, Nat.reduceMul, Nat.reduceSub, i_lit, eq_self, and_true, true_and, and_self, not_true_eq_false, not_false_eq_true, or_true, true_or, or_false, false_or, false_and, and_false, reduceCtorEq, Nat.add_left_cancel_iff, Nat.add_zero, Nat.zero_add, md_all h, c3]; done))
              | ((with_reducible refine e_in ?_ ?_); focus (simp (disch := omega) only [b_all, sV_all, ↓reduceIte, Nat.reduceEqDiff, Nat.reduceLT, Nat.reduceLeDiff, Nat.reduceAdd, Nat.reduceMul, Nat.reduceSub, i_lit, eq_self, and_true, true_and, and_self, not_true_eq_false, not_false_eq_true, or_true, true_or, or_false, false_or, false_and, and_false, reduceCtorEq, Nat.add_left_cancel_iff, Nat.add_zero, Nat.zero_add, md_all h, c3]; done))
              | unfold fX5_fits_86
              | fail)
            first | with_reducible rfl | simp (disch := omega) only [b_all, sV_all, ↓reduceIte, Nat.reduceEqDiff, Nat.reduceLT, Nat.reduceLeDiff, Nat.reduceAdd, Nat.reduceMul, Nat.reduceSub, i_lit, eq_self, and_true, true_and, and_self, not_true_eq_false, not_false_eq_true, or_true, true_or, or_false, false_or, false_and, and_false, reduceCtorEq, Nat.add_left_cancel_iff, Nat.add_zero, Nat.zero_add, md_all h, c3]
theorem s_fits (hk : 5000 ≤ k) (h : St x B C W M) (hb : Bd W) {t s o : Nat} (ht : t < 200) (hs : s < 5) (ho : o < 20) : fX5_fits x k (B + 25) (i32 t) (i32 s) (i32 o) M = some (i32 (bp (fits W t s o)), M) := by
  have h0 := hb.1
  have h3 : W 3 (20 * s + o) < 4294967296 := hb.r (by omega) _
  have e := s_fits35 (k := k) h hb ht hs ho (W 3 (20 * s + o) = 4294967295 ∨ W 3 (20 * s + o) = t) k 0 (by omega) (by omega)
  rw [al_0] at e
  unfold fits
  by_cases c : W 3 (20 * s + o) = 4294967295 ∨ W 3 (20 * s + o) = t
  · rw [← e, bp_t c]
    unfold fX5_fits
    by_cases c1 : W 3 (20 * s + o) = 4294967295
    · repeat (first
        | (with_reducible refine e_l1 ?_)
        | ((with_reducible refine e_k ?_ (mkM h) ?_); focus rfl)
        | ((with_reducible refine e_p ?_ (mp1 h) ?_); focus rfl)
        | ((with_reducible refine e_p ?_ (mp2 h) ?_); focus rfl)
        | ((with_reducible refine e_p ?_ (mp3 h) ?_); focus rfl)
        | ((with_reducible refine e_p ?_ (mp4 h) ?_); focus rfl)
        | ((with_reducible refine e_p ?_ (mp5 h) ?_); focus rfl)
        | ((with_reducible refine e_p ?_ (mp6 h) ?_); focus rfl)
        | ((with_reducible refine e_p ?_ (mp7 h) ?_); focus rfl)
        | ((with_reducible refine e_p ?_ (mp8 h) ?_); focus rfl)
        | ((with_reducible refine e_p ?_ (mp9 h) ?_); focus rfl)
        | ((with_reducible refine e_p ?_ (mp10 h) ?_); focus rfl)
        | ((with_reducible refine e_p ?_ (mp11 h) ?_); focus rfl)
        | ((with_reducible refine e_p ?_ (mp12 h) ?_); focus rfl)
        | ((with_reducible refine e_p ?_ (mp13 h) ?_); focus rfl)
        | ((with_reducible refine e_p ?_ (mp14 h) ?_); focus rfl)
        | ((with_reducible refine e_p ?_ (mp15 h) ?_); focus rfl)
        | ((with_reducible refine e_p ?_ (mp16 h) ?_); focus rfl)
        | ((with_reducible refine e_p ?_ (mp17 h) ?_); focus rfl)
        | ((with_reducible refine e_p ?_ (mp18 h) ?_); focus rfl)
        | ((with_reducible refine e_p ?_ (mp19 h) ?_); focus rfl)
        | ((with_reducible refine e_p ?_ (mp20 h) ?_); focus rfl)
        | ((with_reducible refine e_p ?_ (mp21 h) ?_); focus rfl)
        | ((with_reducible refine e_ip ?_ ?_); focus (simp (disch := omega) only [b_all, sV_all, ↓reduceIte, Nat.reduceEqDiff, Nat.reduceLT, Nat.reduceLeDiff, Nat.reduceAdd, Nat.reduceMul, Nat.reduceSub, i_lit, eq_self, and_true, true_and, and_self, not_true_eq_false, not_false_eq_true, or_true, true_or, or_false, false_or, false_and, and_false, reduceCtorEq, Nat.add_left_cancel_iff, Nat.add_zero, Nat.zero_add, md_all h]; done))
        | ((with_reducible refine e_in ?_ ?_); focus (simp (disch := omega) only [b_all, sV_all, ↓reduceIte, Nat.reduceEqDiff, Nat.reduceLT, Nat.reduceLeDiff, Nat.reduceAdd, Nat.reduceMul, Nat.reduceSub, i_lit, eq_self, and_true, true_and, and_self, not_true_eq_false, not_false_eq_true, or_true, true_or, or_false, false_or, false_and, and_false, reduceCtorEq, Nat.add_left_cancel_iff, Nat.add_zero, Nat.zero_add, md_all h]; done))
        | unfold fX5_fits_25
        | unfold fX5_fits_30
        | fail)
      first | with_reducible rfl | simp (disch := omega) only [b_all, sV_all, ↓reduceIte, Nat.reduceEqDiff, Nat.reduceLT, Nat.reduceLeDiff, Nat.reduceAdd, Nat.reduceMul, Nat.reduceSub, i_lit, eq_self, and_true, true_and, and_self, not_true_eq_false, not_false_eq_true, or_true, true_or, or_false, false_or, false_and, and_false, reduceCtorEq, Nat.add_left_cancel_iff, Nat.add_zero, Nat.zero_add, md_all h]
    · repeat (first
        | (with_reducible refine e_l1 ?_)
        | ((with_reducible refine e_k ?_ (mkM h) ?_); focus rfl)
        | ((with_reducible refine e_p ?_ (mp1 h) ?_); focus rfl)
        | ((with_reducible refine e_p ?_ (mp2 h) ?_); focus rfl)
        | ((with_reducible refine e_p ?_ (mp3 h) ?_); focus rfl)
        | ((with_reducible refine e_p ?_ (mp4 h) ?_); focus rfl)
        | ((with_reducible refine e_p ?_ (mp5 h) ?_); focus rfl)
        | ((with_reducible refine e_p ?_ (mp6 h) ?_); focus rfl)
        | ((with_reducible refine e_p ?_ (mp7 h) ?_); focus rfl)
        | ((with_reducible refine e_p ?_ (mp8 h) ?_); focus rfl)
        | ((with_reducible refine e_p ?_ (mp9 h) ?_); focus rfl)
        | ((with_reducible refine e_p ?_ (mp10 h) ?_); focus rfl)
        | ((with_reducible refine e_p ?_ (mp11 h) ?_); focus rfl)
        | ((with_reducible refine e_p ?_ (mp12 h) ?_); focus rfl)
        | ((with_reducible refine e_p ?_ (mp13 h) ?_); focus rfl)
        | ((with_reducible refine e_p ?_ (mp14 h) ?_); focus rfl)
        | ((with_reducible refine e_p ?_ (mp15 h) ?_); focus rfl)
        | ((with_reducible refine e_p ?_ (mp16 h) ?_); focus rfl)
        | ((with_reducible refine e_p ?_ (mp17 h) ?_); focus rfl)
        | ((with_reducible refine e_p ?_ (mp18 h) ?_); focus rfl)
        | ((with_reducible refine e_p ?_ (mp19 h) ?_); focus rfl)
        | ((with_reducible refine e_p ?_ (mp20 h) ?_); focus rfl)
        | ((with_reducible refine e_p ?_ (mp21 h) ?_); focus rfl)
        | ((with_reducible refine e_ip ?_ ?_); focus (simp (disch := omega) only [b_all, sV_all, ↓reduceIte, Nat.reduceEqDiff, Nat.reduceLT, Nat.reduceLeDiff, Nat.reduceAdd, Nat.reduceMul, Nat.reduceSub, i_lit, eq_self, and_true, true_and, and_self, not_true_eq_false, not_false_eq_true, or_true, true_or, or_false, false_or, false_and, and_false, reduceCtorEq, Nat.add_left_cancel_iff, Nat.add_zero, Nat.zero_add, md_all h]; done))
        | ((with_reducible refine e_in ?_ ?_); focus (simp (disch := omega) only [b_all, sV_all, ↓reduceIte, Nat.reduceEqDiff, Nat.reduceLT, Nat.reduceLeDiff, Nat.reduceAdd, Nat.reduceMul, Nat.reduceSub, i_lit, eq_self, and_true, true_and, and_self, not_true_eq_false, not_false_eq_true, or_true, true_or, or_false, false_or, false_and, and_false, reduceCtorEq, Nat.add_left_cancel_iff, Nat.add_zero, Nat.zero_add, md_all h]; done))
        | unfold fX5_fits_25
        | unfold fX5_fits_30
        | fail)
      first | with_reducible rfl | simp (disch := omega) only [b_all, sV_all, ↓reduceIte, Nat.reduceEqDiff, Nat.reduceLT, Nat.reduceLeDiff, Nat.reduceAdd, Nat.reduceMul, Nat.reduceSub, i_lit, eq_self, and_true, true_and, and_self, not_true_eq_false, not_false_eq_true, or_true, true_or, or_false, false_or, false_and, and_false, reduceCtorEq, Nat.add_left_cancel_iff, Nat.add_zero, Nat.zero_add, md_all h]
  · rw [← e, bp_f c]
    unfold fX5_fits
    repeat (first
      | (with_reducible refine e_l1 ?_)
      | ((with_reducible refine e_k ?_ (mkM h) ?_); focus rfl)
      | ((with_reducible refine e_p ?_ (mp1 h) ?_); focus rfl)
      | ((with_reducible refine e_p ?_ (mp2 h) ?_); focus rfl)
      | ((with_reducible refine e_p ?_ (mp3 h) ?_); focus rfl)
      | ((with_reducible refine e_p ?_ (mp4 h) ?_); focus rfl)
      | ((with_reducible refine e_p ?_ (mp5 h) ?_); focus rfl)
      | ((with_reducible refine e_p ?_ (mp6 h) ?_); focus rfl)
      | ((with_reducible refine e_p ?_ (mp7 h) ?_); focus rfl)
      | ((with_reducible refine e_p ?_ (mp8 h) ?_); focus rfl)
      | ((with_reducible refine e_p ?_ (mp9 h) ?_); focus rfl)
      | ((with_reducible refine e_p ?_ (mp10 h) ?_); focus rfl)
      | ((with_reducible refine e_p ?_ (mp11 h) ?_); focus rfl)
      | ((with_reducible refine e_p ?_ (mp12 h) ?_); focus rfl)
      | ((with_reducible refine e_p ?_ (mp13 h) ?_); focus rfl)
      | ((with_reducible refine e_p ?_ (mp14 h) ?_); focus rfl)
      | ((with_reducible refine e_p ?_ (mp15 h) ?_); focus rfl)
      | ((with_reducible refine e_p ?_ (mp16 h) ?_); focus rfl)
      | ((with_reducible refine e_p ?_ (mp17 h) ?_); focus rfl)
      | ((with_reducible refine e_p ?_ (mp18 h) ?_); focus rfl)
      | ((with_reducible refine e_p ?_ (mp19 h) ?_); focus rfl)
      | ((with_reducible refine e_p ?_ (mp20 h) ?_); focus rfl)
      | ((with_reducible refine e_p ?_ (mp21 h) ?_); focus rfl)
      | ((with_reducible refine e_ip ?_ ?_); focus (simp (disch := omega) only [b_all, sV_all, ↓reduceIte, Nat.reduceEqDiff, Nat.reduceLT, Nat.reduceLeDiff, Nat.reduceAdd, Nat.reduceMul, Nat.reduceSub, i_lit, eq_self, and_true, true_and, and_self, not_true_eq_false, not_false_eq_true, or_true, true_or, or_false, false_or, false_and, and_false, reduceCtorEq, Nat.add_left_cancel_iff, Nat.add_zero, Nat.zero_add, md_all h]; done))
      | ((with_reducible refine e_in ?_ ?_); focus (simp (disch := omega) only [b_all, sV_all, ↓reduceIte, Nat.reduceEqDiff, Nat.reduceLT, Nat.reduceLeDiff, Nat.reduceAdd, Nat.reduceMul, Nat.reduceSub, i_lit, eq_self, and_true, true_and, and_self, not_true_eq_false, not_false_eq_true, or_true, true_or, or_false, false_or, false_and, and_false, reduceCtorEq, Nat.add_left_cancel_iff, Nat.add_zero, Nat.zero_add, md_all h]; done))
      | unfold fX5_fits_25
      | unfold fX5_fits_30
      | fail)
    first | with_reducible rfl | simp (disch := omega) only [b_all, sV_all, ↓reduceIte, Nat.reduceEqDiff, Nat.reduceLT, Nat.reduceLeDiff, Nat.reduceAdd, Nat.reduceMul, Nat.reduceSub, i_lit, eq_self, and_true, true_and, and_self, not_true_eq_false, not_false_eq_true, or_true, true_or, or_false, false_or, false_and, and_false, reduceCtorEq, Nat.add_left_cancel_iff, Nat.add_zero, Nat.zero_add, md_all h]
theorem s_allFit5 (hk : 5000 ≤ k) (h : St x B C W M) (hb : Bd W) {t s : Nat} (ht : t < 200) (hs : s < 5) : ∀ n o, o ≤ 20 → 20 < n + o → fX5_allFit_5 x k n (B + 25) (i32 t) (i32 s) (i32 (bp (al True (fitO W t s) o))) (i32 o) M = some (i32 (bp (al True (fitO W t s) 20)), M) := by
  have h0 := hb.1
  intro n
  induction n with
  | zero => intro u h1 h2; omega
  | succ n ih =>
    intro o hu hn
    have hle := bp_le (al True (fitO W t s) o)
    by_cases hc : 20 ≤ o
    · obtain rfl : o = 20 := by omega
      rw [fX5_allFit_5]
      repeat (first
        | (with_reducible refine e_l1 ?_)
        | ((with_reducible refine e_k ?_ (mkM h) ?_); focus rfl)
        | ((with_reducible refine e_p ?_ (mp1 h) ?_); focus rfl)
        | ((with_reducible refine e_p ?_ (mp2 h) ?_); focus rfl)
        | ((with_reducible refine e_p ?_ (mp3 h) ?_); focus rfl)
        | ((with_reducible refine e_p ?_ (mp4 h) ?_); focus rfl)
        | ((with_reducible refine e_p ?_ (mp5 h) ?_); focus rfl)
        | ((with_reducible refine e_p ?_ (mp6 h) ?_); focus rfl)
        | ((with_reducible refine e_p ?_ (mp7 h) ?_); focus rfl)
        | ((with_reducible refine e_p ?_ (mp8 h) ?_); focus rfl)
        | ((with_reducible refine e_p ?_ (mp9 h) ?_); focus rfl)
        | ((with_reducible refine e_p ?_ (mp10 h) ?_); focus rfl)
        | ((with_reducible refine e_p ?_ (mp11 h) ?_); focus rfl)
        | ((with_reducible refine e_p ?_ (mp12 h) ?_); focus rfl)
        | ((with_reducible refine e_p ?_ (mp13 h) ?_); focus rfl)
        | ((with_reducible refine e_p ?_ (mp14 h) ?_); focus rfl)
        | ((with_reducible refine e_p ?_ (mp15 h) ?_); focus rfl)
        | ((with_reducible refine e_p ?_ (mp16 h) ?_); focus rfl)
        | ((with_reducible refine e_p ?_ (mp17 h) ?_); focus rfl)
        | ((with_reducible refine e_p ?_ (mp18 h) ?_); focus rfl)
        | ((with_reducible refine e_p ?_ (mp19 h) ?_); focus rfl)
        | ((with_reducible refine e_p ?_ (mp20 h) ?_); focus rfl)
        | ((with_reducible refine e_p ?_ (mp21 h) ?_); focus rfl)
        | ((with_reducible refine e_ip ?_ ?_); focus (simp (disch := omega) only [b_all, sV_all, ↓reduceIte, Nat.reduceEqDiff, Nat.reduceLT, Nat.reduceLeDiff, Nat.reduceAdd, Nat.reduceMul, Nat.reduceSub, i_lit, eq_self, and_true, true_and, and_self, not_true_eq_false, not_false_eq_true, or_true, true_or, or_false, false_or, false_and, and_false, reduceCtorEq, Nat.add_left_cancel_iff, Nat.add_zero, Nat.zero_add, md_all h]; done))
        | ((with_reducible refine e_in ?_ ?_); focus (simp (disch := omega) only [b_all, sV_all, ↓reduceIte, Nat.reduceEqDiff, Nat.reduceLT, Nat.reduceLeDiff, Nat.reduceAdd, Nat.reduceMul, Nat.reduceSub, i_lit, eq_self, and_true, true_and, and_self, not_true_eq_false, not_false_eq_true, or_true, true_or, or_false, false_or, false_and, and_false, reduceCtorEq, Nat.add_left_cancel_iff, Nat.add_zero, Nat.zero_add, md_all h]; done))
        | fail)
      first | with_reducible rfl | simp (disch := omega) only [b_all, sV_all, ↓reduceIte, Nat.reduceEqDiff, Nat.reduceLT, Nat.reduceLeDiff, Nat.reduceAdd, Nat.reduceMul, Nat.reduceSub, i_lit, eq_self, and_true, true_and, and_self, not_true_eq_false, not_false_eq_true, or_true, true_or, or_false, false_or, false_and, and_false, reduceCtorEq, Nat.add_left_cancel_iff, Nat.add_zero, Nat.zero_add, md_all h]
    · have e := ih (o + 1) (by omega) (by omega)
      rw [← e, fX5_allFit_5]
      have h13 : W 13 (20 * t + o) < 2 := hb.r (by omega) _
      have hmod : o % W 0 0 < W 0 0 := Nat.mod_lt _ (by omega)
      by_cases c1 : W 13 (20 * t + o) = 0
      · rw [al_t (show fitO W t s o from fun z => absurd c1 z)]
        repeat (first
          | (with_reducible refine e_l1 ?_)
          | ((with_reducible refine e_k ?_ (mkM h) ?_); focus rfl)
          | ((with_reducible refine e_p ?_ (mp1 h) ?_); focus rfl)
          | ((with_reducible refine e_p ?_ (mp2 h) ?_); focus rfl)
          | ((with_reducible refine e_p ?_ (mp3 h) ?_); focus rfl)
          | ((with_reducible refine e_p ?_ (mp4 h) ?_); focus rfl)
          | ((with_reducible refine e_p ?_ (mp5 h) ?_); focus rfl)
          | ((with_reducible refine e_p ?_ (mp6 h) ?_); focus rfl)
          | ((with_reducible refine e_p ?_ (mp7 h) ?_); focus rfl)
          | ((with_reducible refine e_p ?_ (mp8 h) ?_); focus rfl)
          | ((with_reducible refine e_p ?_ (mp9 h) ?_); focus rfl)
          | ((with_reducible refine e_p ?_ (mp10 h) ?_); focus rfl)
          | ((with_reducible refine e_p ?_ (mp11 h) ?_); focus rfl)
          | ((with_reducible refine e_p ?_ (mp12 h) ?_); focus rfl)
          | ((with_reducible refine e_p ?_ (mp13 h) ?_); focus rfl)
          | ((with_reducible refine e_p ?_ (mp14 h) ?_); focus rfl)
          | ((with_reducible refine e_p ?_ (mp15 h) ?_); focus rfl)
          | ((with_reducible refine e_p ?_ (mp16 h) ?_); focus rfl)
          | ((with_reducible refine e_p ?_ (mp17 h) ?_); focus rfl)
          | ((with_reducible refine e_p ?_ (mp18 h) ?_); focus rfl)
          | ((with_reducible refine e_p ?_ (mp19 h) ?_); focus rfl)
          | ((with_reducible refine e_p ?_ (mp20 h) ?_); focus rfl)
          | ((with_reducible refine e_p ?_ (mp21 h) ?_); focus rfl)
          | ((with_reducible refine e_ip ?_ ?_); focus (simp (disch := omega) only [b_all, sV_all, ↓reduceIte, Nat.reduceEqDiff, Nat.reduceLT, Nat.reduceLeDiff, Nat.reduceAdd, Nat.reduceMul, Nat.reduceSub, i_lit, eq_self, and_true, true_and, and_self, not_true_eq_false, not_false_eq_true, or_true, true_or, or_false, false_or, false_and, and_false, reduceCtorEq, Nat.add_left_cancel_iff, Nat.add_zero, Nat.zero_add, md_all h]; done))
          | ((with_reducible refine e_in ?_ ?_); focus (simp (disch := omega) only [b_all, sV_all, ↓reduceIte, Nat.reduceEqDiff, Nat.reduceLT, Nat.reduceLeDiff, Nat.reduceAdd, Nat.reduceMul, Nat.reduceSub, i_lit, eq_self, and_true, true_and, and_self, not_true_eq_false, not_false_eq_true, or_true, true_or, or_false, false_or, false_and, and_false, reduceCtorEq, Nat.add_left_cancel_iff, Nat.add_zero, Nat.zero_add, md_all h]; done))
          | unfold fX5_allFit_51
          | fail)
        first | with_reducible rfl | simp (disch := omega) only [b_all, sV_all, ↓reduceIte, Nat.reduceEqDiff, Nat.reduceLT, Nat.reduceLeDiff, Nat.reduceAdd, Nat.reduceMul, Nat.reduceSub, i_lit, eq_self, and_true, true_and, and_self, not_true_eq_false, not_false_eq_true, or_true, true_or, or_false, false_or, false_and, and_false, reduceCtorEq, Nat.add_left_cancel_iff, Nat.add_zero, Nat.zero_add, md_all h]
      · by_cases c2 : o % W 0 0 = s
        · have es := s_fits (k := k) hk h hb ht hs (show o < 20 by omega)
          by_cases c3 : fits W t s o
          · rw [al_t (show fitO W t s o from fun _ _ => c3)]
            repeat (first
              | (with_reducible refine e_l1 ?_)
              | ((with_reducible refine e_k ?_ (mkM h) ?_); focus rfl)
              | ((with_reducible refine e_p ?_ (mp1 h) ?_); focus rfl)
              | ((with_reducible refine e_p ?_ (mp2 h) ?_); focus rfl)
              | ((with_reducible refine e_p ?_ (mp3 h) ?_); focus rfl)
              | ((with_reducible refine e_p ?_ (mp4 h) ?_); focus rfl)
              | ((with_reducible refine e_p ?_ (mp5 h) ?_); focus rfl)
              | ((with_reducible refine e_p ?_ (mp6 h) ?_); focus rfl)
              | ((with_reducible refine e_p ?_ (mp7 h) ?_); focus rfl)
              | ((with_reducible refine e_p ?_ (mp8 h) ?_); focus rfl)
              | ((with_reducible refine e_p ?_ (mp9 h) ?_); focus rfl)
              | ((with_reducible refine e_p ?_ (mp10 h) ?_); focus rfl)
              | ((with_reducible refine e_p ?_ (mp11 h) ?_); focus rfl)
              | ((with_reducible refine e_p ?_ (mp12 h) ?_); focus rfl)
              | ((with_reducible refine e_p ?_ (mp13 h) ?_); focus rfl)
              | ((with_reducible refine e_p ?_ (mp14 h) ?_); focus rfl)
              | ((with_reducible refine e_p ?_ (mp15 h) ?_); focus rfl)
              | ((with_reducible refine e_p ?_ (mp16 h) ?_); focus rfl)
              | ((with_reducible refine e_p ?_ (mp17 h) ?_); focus rfl)
              | ((with_reducible refine e_p ?_ (mp18 h) ?_); focus rfl)
              | ((with_reducible refine e_p ?_ (mp19 h) ?_); focus rfl)
              | ((with_reducible refine e_p ?_ (mp20 h) ?_); focus rfl)
              | ((with_reducible refine e_p ?_ (mp21 h) ?_); focus rfl)
              | ((with_reducible refine e_o2 ?_ es ?_); focus (first | with_reducible rfl | (simp (disch := omega) only [b_all, sV_all, ↓reduceIte, Nat.reduceEqDiff, Nat.reduceLT, Nat.reduceLeDiff, Nat.reduceAdd, Nat.reduceMul, Nat.reduceSub, i_lit, eq_self, and_true, true_and, and_self, not_true_eq_false, not_false_eq_true, or_true, true_or, or_false, false_or, false_and, and_false, reduceCtorEq, Nat.add_left_cancel_iff, Nat.add_zero, Nat.zero_add, md_all h, c3]; done)))
              | ((with_reducible refine e_ip ?_ ?_); focus (simp (disch := omega) only [b_all, sV_all, ↓reduceIte, Nat.reduceEqDiff, Nat.reduceLT, Nat.reduceLeDiff, Nat.reduceAdd, Nat.reduceMul, Nat.reduceSub, i_lit, eq_self, and_true, true_and, and_self, not_true_eq_false, not_false_eq_true, or_true, true_or, or_false, false_or, false_and, and_false, reduceCtorEq, Nat.add_left_cancel_iff, Nat.add_zero, Nat.zero_add, md_all h, c3]; done))
              | ((with_reducible refine e_in ?_ ?_); focus (simp (disch := omega) only [b_all, sV_all, ↓reduceIte, Nat.reduceEqDiff, Nat.reduceLT, Nat.reduceLeDiff, Nat.reduceAdd, Nat.reduceMul, Nat.reduceSub, i_lit, eq_self, and_true, true_and, and_self, not_true_eq_false, not_false_eq_true, or_true, true_or, or_false, false_or, false_and, and_false, reduceCtorEq, Nat.add_left_cancel_iff, Nat.add_zero, Nat.zero_add, md_all h, c3]; done))
              | unfold fX5_allFit_51
              | fail)
            first | with_reducible rfl | simp (disch := omega) only [b_all, sV_all, ↓reduceIte, Nat.reduceEqDiff, Nat.reduceLT, Nat.reduceLeDiff, Nat.reduceAdd, Nat.reduceMul, Nat.reduceSub, i_lit, eq_self, and_true, true_and, and_self, not_true_eq_false, not_false_eq_true, or_true, true_or, or_false, false_or, false_and, and_false, reduceCtorEq, Nat.add_left_cancel_iff, Nat.add_zero, Nat.zero_add, md_all h, c3]
          · rw [al_f (show ¬ fitO W t s o from fun z => c3 (z c1 c2))]
            repeat (first
              | (with_reducible refine e_l1 ?_)
              | ((with_reducible refine e_k ?_ (mkM h) ?_); focus rfl)
              | ((with_reducible refine e_p ?_ (mp1 h) ?_); focus rfl)
              | ((with_reducible refine e_p ?_ (mp2 h) ?_); focus rfl)
              | ((with_reducible refine e_p ?_ (mp3 h) ?_); focus rfl)
              | ((with_reducible refine e_p ?_ (mp4 h) ?_); focus rfl)
              | ((with_reducible refine e_p ?_ (mp5 h) ?_); focus rfl)
              | ((with_reducible refine e_p ?_ (mp6 h) ?_); focus rfl)
              | ((with_reducible refine e_p ?_ (mp7 h) ?_); focus rfl)
              | ((with_reducible refine e_p ?_ (mp8 h) ?_); focus rfl)
              | ((with_reducible refine e_p ?_ (mp9 h) ?_); focus rfl)
              | ((with_reducible refine e_p ?_ (mp10 h) ?_); focus rfl)
              | ((with_reducible refine e_p ?_ (mp11 h) ?_); focus rfl)
              | ((with_reducible refine e_p ?_ (mp12 h) ?_); focus rfl)
              | ((with_reducible refine e_p ?_ (mp13 h) ?_); focus rfl)
              | ((with_reducible refine e_p ?_ (mp14 h) ?_); focus rfl)
              | ((with_reducible refine e_p ?_ (mp15 h) ?_); focus rfl)
              | ((with_reducible refine e_p ?_ (mp16 h) ?_); focus rfl)
              | ((with_reducible refine e_p ?_ (mp17 h) ?_); focus rfl)
              | ((with_reducible refine e_p ?_ (mp18 h) ?_); focus rfl)
              | ((with_reducible refine e_p ?_ (mp19 h) ?_); focus rfl)
              | ((with_reducible refine e_p ?_ (mp20 h) ?_); focus rfl)
              | ((with_reducible refine e_p ?_ (mp21 h) ?_); focus rfl)
              | ((with_reducible refine e_o2 ?_ es ?_); focus (first | with_reducible rfl | (simp (disch := omega) only [b_all, sV_all, ↓reduceIte, Nat.reduceEqDiff, Nat.reduceLT, Nat.reduceLeDiff, Nat.reduceAdd, Nat.reduceMul, Nat.reduceSub, i_lit, eq_self, and_true, true_and, and_self, not_true_eq_false, not_false_eq_true, or_true, true_or, or_false, false_or, false_and, and_false, reduceCtorEq, Nat.add_left_cancel_iff, Nat.add_zero, Nat.zero_add, md_all h, c3]; done)))
              | ((with_reducible refine e_ip ?_ ?_); focus (simp (disch := omega) only [b_all, sV_all, ↓reduceIte, Nat.reduceEqDiff, Nat.reduceLT, Nat.reduceLeDiff, Nat.reduceAdd, Nat.reduceMul, Nat.reduceSub, i_lit, eq_self, and_true, true_and, and_self, not_true_eq_false, not_false_eq_true, or_true, true_or, or_false, false_or, false_and, and_false, reduceCtorEq, Nat.add_left_cancel_iff, Nat.add_zero, Nat.zero_add, md_all h, c3]; done))
              | ((with_reducible refine e_in ?_ ?_); focus (simp (disch := omega) only [b_all, sV_all, ↓reduceIte, Nat.reduceEqDiff, Nat.reduceLT, Nat.reduceLeDiff, Nat.reduceAdd, Nat.reduceMul, Nat.reduceSub, i_lit, eq_self, and_true, true_and, and_self, not_true_eq_false, not_false_eq_true, or_true, true_or, or_false, false_or, false_and, and_false, reduceCtorEq, Nat.add_left_cancel_iff, Nat.add_zero, Nat.zero_add, md_all h, c3]; done))
              | unfold fX5_allFit_51
              | fail)
            first | with_reducible rfl | simp (disch := omega) only [b_all, sV_all, ↓reduceIte, Nat.reduceEqDiff, Nat.reduceLT, Nat.reduceLeDiff, Nat.reduceAdd, Nat.reduceMul, Nat.reduceSub, i_lit, eq_self, and_true, true_and, and_self, not_true_eq_false, not_false_eq_true, or_true, true_or, or_false, false_or, false_and, and_false, reduceCtorEq, Nat.add_left_cancel_iff, Nat.add_zero, Nat.zero_add, md_all h, c3]
        · rw [al_t (show fitO W t s o from fun _ z => absurd z c2)]
          repeat (first
            | (with_reducible refine e_l1 ?_)
            | ((with_reducible refine e_k ?_ (mkM h) ?_); focus rfl)
            | ((with_reducible refine e_p ?_ (mp1 h) ?_); focus rfl)
            | ((with_reducible refine e_p ?_ (mp2 h) ?_); focus rfl)
            | ((with_reducible refine e_p ?_ (mp3 h) ?_); focus rfl)
            | ((with_reducible refine e_p ?_ (mp4 h) ?_); focus rfl)
            | ((with_reducible refine e_p ?_ (mp5 h) ?_); focus rfl)
            | ((with_reducible refine e_p ?_ (mp6 h) ?_); focus rfl)
            | ((with_reducible refine e_p ?_ (mp7 h) ?_); focus rfl)
            | ((with_reducible refine e_p ?_ (mp8 h) ?_); focus rfl)
            | ((with_reducible refine e_p ?_ (mp9 h) ?_); focus rfl)
            | ((with_reducible refine e_p ?_ (mp10 h) ?_); focus rfl)
            | ((with_reducible refine e_p ?_ (mp11 h) ?_); focus rfl)
            | ((with_reducible refine e_p ?_ (mp12 h) ?_); focus rfl)
            | ((with_reducible refine e_p ?_ (mp13 h) ?_); focus rfl)
            | ((with_reducible refine e_p ?_ (mp14 h) ?_); focus rfl)
            | ((with_reducible refine e_p ?_ (mp15 h) ?_); focus rfl)
            | ((with_reducible refine e_p ?_ (mp16 h) ?_); focus rfl)
            | ((with_reducible refine e_p ?_ (mp17 h) ?_); focus rfl)
            | ((with_reducible refine e_p ?_ (mp18 h) ?_); focus rfl)
            | ((with_reducible refine e_p ?_ (mp19 h) ?_); focus rfl)
            | ((with_reducible refine e_p ?_ (mp20 h) ?_); focus rfl)
            | ((with_reducible refine e_p ?_ (mp21 h) ?_); focus rfl)
            | ((with_reducible refine e_ip ?_ ?_); focus (simp (disch := omega) only [b_all, sV_all, ↓reduceIte, Nat.reduceEqDiff, Nat.reduceLT, Nat.reduceLeDiff, Nat.reduceAdd, Nat.reduceMul, Nat.reduceSub, i_lit, eq_self, and_true, true_and, and_self, not_true_eq_false, not_false_eq_true, or_true, true_or, or_false, false_or, false_and, and_false, reduceCtorEq, Nat.add_left_cancel_iff, Nat.add_zero, Nat.zero_add, md_all h]; done))
            | ((with_reducible refine e_in ?_ ?_); focus (simp (disch := omega) only [b_all, sV_all, ↓reduceIte, Nat.reduceEqDiff, Nat.reduceLT, Nat.reduceLeDiff, Nat.reduceAdd, Nat.reduceMul, Nat.reduceSub, i_lit, eq_self, and_true, true_and, and_self, not_true_eq_false, not_false_eq_true, or_true, true_or, or_false, false_or, false_and, and_false, reduceCtorEq, Nat.add_left_cancel_iff, Nat.add_zero, Nat.zero_add, md_all h]; done))
            | unfold fX5_allFit_51
            | fail)
          first | with_reducible rfl | simp (disch := omega) only [b_all, sV_all, ↓reduceIte, Nat.reduceEqDiff, Nat.reduceLT, Nat.reduceLeDiff, Nat.reduceAdd, Nat.reduceMul, Nat.reduceSub, i_lit, eq_self, and_true, true_and, and_self, not_true_eq_false, not_false_eq_true, or_true, true_or, or_false, false_or, false_and, and_false, reduceCtorEq, Nat.add_left_cancel_iff, Nat.add_zero, Nat.zero_add, md_all h]
theorem s_allFit (hk : 5000 ≤ k) (h : St x B C W M) (hb : Bd W) {t s : Nat} (ht : t < 200) (hs : s < 5) : fX5_allFit x k (B + 25) (i32 t) (i32 s) M = some (i32 (bp (allFit W t s)), M) := by
  have e := s_allFit5 (k := k) hk h hb ht hs k 0 (by omega) (by omega)
  rw [al_0, bp_t trivial] at e
  exact e
theorem s_applies (hk : 5000 ≤ k) (h : St x B C W M) (hb : Bd W) {t s : Nat} (ht : t < 200) (hs : s < 5) : ∃ M', fX5_applies x k (B + 25) (i32 t) (i32 s) M = some ((), M') ∧ St x B C (wApp W t s) M' := by
  have h4 : W 4 t < 5 := hb.r (by omega) t
  have hh := su9 (su8 (su0 (su1 h (5 * s + W 4 t) (W 1 (5 * s + W 4 t) + 1)) 4 (W 0 4 + 1)) (5 * t + s) (W 0 4 + 1)) (5 * t + s) 0
  obtain ⟨M', e, hM⟩ := s_unlock (k := k) hk hh (fun j => by simp (disch := omega) only [U_r]; exact hb.r (by omega) j) ht hs
  refine ⟨M', ?_, hM⟩
  unfold fX5_applies
  repeat (first
    | (with_reducible refine e_l1 ?_)
    | ((with_reducible refine e_k ?_ (mkM h) ?_); focus rfl)
    | ((with_reducible refine e_p ?_ (mp1 h) ?_); focus rfl)
    | ((with_reducible refine e_p ?_ (mp2 h) ?_); focus rfl)
    | ((with_reducible refine e_p ?_ (mp3 h) ?_); focus rfl)
    | ((with_reducible refine e_p ?_ (mp4 h) ?_); focus rfl)
    | ((with_reducible refine e_p ?_ (mp5 h) ?_); focus rfl)
    | ((with_reducible refine e_p ?_ (mp6 h) ?_); focus rfl)
    | ((with_reducible refine e_p ?_ (mp7 h) ?_); focus rfl)
    | ((with_reducible refine e_p ?_ (mp8 h) ?_); focus rfl)
    | ((with_reducible refine e_p ?_ (mp9 h) ?_); focus rfl)
    | ((with_reducible refine e_p ?_ (mp10 h) ?_); focus rfl)
    | ((with_reducible refine e_p ?_ (mp11 h) ?_); focus rfl)
    | ((with_reducible refine e_p ?_ (mp12 h) ?_); focus rfl)
    | ((with_reducible refine e_p ?_ (mp13 h) ?_); focus rfl)
    | ((with_reducible refine e_p ?_ (mp14 h) ?_); focus rfl)
    | ((with_reducible refine e_p ?_ (mp15 h) ?_); focus rfl)
    | ((with_reducible refine e_p ?_ (mp16 h) ?_); focus rfl)
    | ((with_reducible refine e_p ?_ (mp17 h) ?_); focus rfl)
    | ((with_reducible refine e_p ?_ (mp18 h) ?_); focus rfl)
    | ((with_reducible refine e_p ?_ (mp19 h) ?_); focus rfl)
    | ((with_reducible refine e_p ?_ (mp20 h) ?_); focus rfl)
    | ((with_reducible refine e_p ?_ (mp21 h) ?_); focus rfl)
    | ((with_reducible refine e_o2 ?_ e ?_); focus (first | with_reducible rfl | (simp (disch := omega) only [b_all, sV_all, ↓reduceIte, Nat.reduceEqDiff, Nat.reduceLT, Nat.reduceLeDiff, Nat.reduceAdd, Nat.reduceMul, Nat.reduceSub, i_lit, eq_self, and_true, true_and, and_self, not_true_eq_false, not_false_eq_true, or_true, true_or, or_false, false_or, false_and, and_false, reduceCtorEq, Nat.add_left_cancel_iff, Nat.add_zero, Nat.zero_add, md_all h]; done)))
    | ((with_reducible refine e_ip ?_ ?_); focus (simp (disch := omega) only [b_all, sV_all, ↓reduceIte, Nat.reduceEqDiff, Nat.reduceLT, Nat.reduceLeDiff, Nat.reduceAdd, Nat.reduceMul, Nat.reduceSub, i_lit, eq_self, and_true, true_and, and_self, not_true_eq_false, not_false_eq_true, or_true, true_or, or_false, false_or, false_and, and_false, reduceCtorEq, Nat.add_left_cancel_iff, Nat.add_zero, Nat.zero_add, md_all h]; done))
    | ((with_reducible refine e_in ?_ ?_); focus (simp (disch := omega) only [b_all, sV_all, ↓reduceIte, Nat.reduceEqDiff, Nat.reduceLT, Nat.reduceLeDiff, Nat.reduceAdd, Nat.reduceMul, Nat.reduceSub, i_lit, eq_self, and_true, true_and, and_self, not_true_eq_false, not_false_eq_true, or_true, true_or, or_false, false_or, false_and, and_false, reduceCtorEq, Nat.add_left_cancel_iff, Nat.add_zero, Nat.zero_add, md_all h]; done))
    | fail)
  first | with_reducible rfl | simp (disch := omega) only [b_all, sV_all, ↓reduceIte, Nat.reduceEqDiff, Nat.reduceLT, Nat.reduceLeDiff, Nat.reduceAdd, Nat.reduceMul, Nat.reduceSub, i_lit, eq_self, and_true, true_and, and_self, not_true_eq_false, not_false_eq_true, or_true, true_or, or_false, false_or, false_and, and_false, reduceCtorEq, Nat.add_left_cancel_iff, Nat.add_zero, Nat.zero_add, md_all h]
end
