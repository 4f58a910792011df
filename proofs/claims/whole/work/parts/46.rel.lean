/-! The relation under changes -/
theorem U_ne (A : Ab) {a b k j : Nat} (h : b ≠ a ∨ j ≠ k) (v : Nat) : U A a k v b j = A b j := by
  unfold U; rw [if_neg (fun z => by rcases h with h | h; exact h z.1; exact h z.2)]
theorem Cq.mk' {C C' : Ab} (h : Cq C) (h1 : ∀ a k, C' a k = C a k ∨ cb a k = 0 ∨ C' a k < cb a k) (h2 : 2 ≤ C' 0 4 ∧ C' 0 5 ≤ C' 60 0 ∧ C' 60 0 ≤ 200 ∧ C' 60 1 ≤ 300) (h3 : ∀ s i, s < 5 → i < C' (2 + 4 * s) 4 → C' (5 + 4 * s) i < C' 60 0) : Cq C' := by
  refine ⟨fun a k hb => ?_, h2, h3⟩
  rcases h1 a k with q | q | q
  · rw [q]; exact h.1 a k hb
  · exact absurd q hb
  · exact q
/-- room -/
def pX (C : Ab) : Nat := C 73 0 + 2 * (300 - C 60 1)
def pZ (C : Ab) : Nat := C 73 1 + 4 * (300 - C 60 1) + 4 * (600 - C 72 3) + 4 * (600 - C 72 1)
def Rx (x : Cx) (C : Ab) : Prop := pX C + 10 ≤ xC x ∧ pZ C + 120 ≤ xL x
def Kp (C C' : Ab) : Prop := C' 60 0 = C 60 0 ∧ (∀ i, C' 70 i = C 70 i) ∧ pX C' ≤ pX C ∧ pZ C' ≤ pZ C
theorem Kp.refl (C : Ab) : Kp C C := ⟨rfl, fun _ => rfl, Nat.le_refl _, Nat.le_refl _⟩
theorem Kp.trans {A C D : Ab} (h : Kp A C) (h' : Kp C D) : Kp A D := ⟨h'.1.trans h.1, fun i => (h'.2.1 i).trans (h.2.1 i), Nat.le_trans h'.2.2.1 h.2.2.1, Nat.le_trans h'.2.2.2 h.2.2.2⟩
theorem Kp.rx {x : Cx} {C C' : Ab} (h : Kp C C') (r : Rx x C) : Rx x C' := ⟨by have := h.2.2.1; have := r.1; omega, by have := h.2.2.2; have := r.2; omega⟩
theorem Kp.low {C C' : Ab} (h : ∀ a j, 60 ≤ a → a < 80 → C' a j = C a j) : Kp C C' := by
  refine ⟨h 60 0 (by omega) (by omega), fun i => h 70 i (by omega) (by omega), ?_, ?_⟩
  · unfold pX; rw [h 73 0 (by omega) (by omega), h 60 1 (by omega) (by omega)]; exact Nat.le_refl _
  · unfold pZ; rw [h 73 1 (by omega) (by omega), h 60 1 (by omega) (by omega), h 72 3 (by omega) (by omega), h 72 1 (by omega) (by omega)]; exact Nat.le_refl _
theorem Rx.rm {x : Cx} {C : Ab} (r : Rx x C) : Rm x C := by
  have h1 := r.1; have h2 := r.2
  unfold pX at h1; unfold pZ at h2
  exact ⟨by omega, by omega⟩
section
variable {C C' W W' : Ab}
theorem sm5 {f g : Nat → Nat} (h : ∀ s, s < 5 → f s = g s) : sm f 5 = sm g 5 := sm_congr 5 h
theorem RP.fr {s : Nat} (r : RP C W s) (h0 : C' (2 + 4 * s) 0 = C (2 + 4 * s) 0) (h1 : ∀ j, j < 5 → C' (3 + 4 * s) j = C (3 + 4 * s) j) (h2 : ∀ o, o < 20 → C' (4 + 4 * s) o = C (4 + 4 * s) o) (w2 : W' 2 s = W 2 s) (w1 : ∀ j, j < 5 → W' 1 (5 * s + j) = W 1 (5 * s + j)) (w3 : ∀ o, o < 20 → W' 3 (20 * s + o) = W 3 (20 * s + o)) : RP C' W' s := by
  refine ⟨by rw [h0, w2]; exact r.1, fun j hj => by rw [h1 j hj, w1 j hj]; exact r.2.1 j hj, fun o ho => by rw [h2 o ho, w3 o ho]; exact r.2.2 o ho⟩
theorem RA.fr {s : Nat} (r : RA C W s) (h4 : C' (2 + 4 * s) 4 = C (2 + 4 * s) 4) (h5 : ∀ i, C' (5 + 4 * s) i = C (5 + 4 * s) i) (w5 : W' 0 5 = W 0 5) (w4 : W' 0 4 = W 0 4) (w8 : ∀ j, W' 8 j = W 8 j) : RA C' W' s := by
  unfold RA
  simp only [h4, h5, w5, w4, w8]
  exact r
theorem RT.fr {t : Nat} (r : RT C W t) (hC : ∀ a j, 100 + 5 * t ≤ a → a ≤ 104 + 5 * t → C' a j = C a j) (hs : ∀ i, i = 4 ∨ i = 5 ∨ i = 6 ∨ i = 17 ∨ i = 19 → W' i t = W i t) (h5 : ∀ i j, i = 7 ∨ i = 8 ∨ i = 9 ∨ i = 10 ∨ i = 11 ∨ i = 12 → j < 5 → W' i (5 * t + j) = W i (5 * t + j)) (h20 : ∀ i j, 13 ≤ i ∧ i ≤ 16 → j < 20 → W' i (20 * t + j) = W i (20 * t + j)) (h17 : W 17 t ≤ 20) : RT C' W' t := by
  obtain ⟨⟨a0, a1, a2, a3, a7, a15⟩, a4, ⟨a5, a6⟩, a8, b10, b11, b12, b13, b14⟩ := r
  have ew : ∀ o, o < 20 → (wr W' t o ↔ wr W t o) := fun o ho => by unfold wr; rw [h20 13 o (by omega) ho]
  unfold RT RB
  rw [hC _ _ (by omega) (by omega), hC _ _ (by omega) (by omega), hC _ _ (by omega) (by omega), hC _ _ (by omega) (by omega), hC _ _ (by omega) (by omega), hC _ _ (by omega) (by omega), hC _ _ (by omega) (by omega), hC _ _ (by omega) (by omega), hC _ _ (by omega) (by omega), hC _ _ (by omega) (by omega), hC _ _ (by omega) (by omega), hC _ _ (by omega) (by omega), hs 4 (by omega), hs 5 (by omega), hs 6 (by omega), hs 17 (by omega), hs 19 (by omega)]
  refine ⟨⟨a0, a1, a2, a3, a7, a15⟩, fun j hj => ?_, ⟨a5.congr (fun o ho => (ew o ho).symm), fun o ho hw => ?_⟩, fun j hj => ?_, b10.congr (fun s hs => by rw [h5 11 s (by omega) hs]), b11.congr (fun s hs => by rw [h5 12 s (by omega) hs]), b12.congr (fun s hs => by rw [h5 8 s (by omega) hs]), b13.congr (fun s hs => by rw [h5 9 s (by omega) hs]), b14.congr (fun s hs => by rw [h5 10 s (by omega) hs])⟩
  · rw [hC _ _ (by omega) (by omega), h5 7 j (by omega) hj]; exact a4 j hj
  · rw [hC _ _ (by omega) (by omega), h20 14 o (by omega) ho]; exact a6 o ho ((ew o ho).mp hw)
  · rw [hC _ _ (by omega) (by omega), hC _ _ (by omega) (by omega), h20 15 j (by omega) (by omega), h20 16 j (by omega) (by omega)]; exact a8 j hj
theorem Rl.b17 (r : Rl C W) {t : Nat} (ht : t < W 0 5) : W 17 t ≤ 20 := by
  have := (cbT r.q (r.c ht)).2.1.2.1
  rw [(r.t ht).1.2.2.2.2.1] at this
  omega
/-- nothing but letters, lists and what counts them changed -/
theorem rl_let (r : Rl C W) (hC : ∀ a j, a < 60 ∨ 100 ≤ a ∧ a < 2000 → C' a j = C a j ∨ a = 0 ∧ j = 6) (h60 : C' 60 0 = C 60 0) (hW : ∀ i j, i ≠ 0 → i ≠ 20 → W' i j = W i j) (hW0 : W' 0 0 = W 0 0 ∧ W' 0 4 = W 0 4 ∧ W' 0 5 = W 0 5) (h6 : C' 0 6 = W' 0 24) (h23 : C' 60 1 = W' 0 23) (hl : W' 0 23 ≤ 300) (hL : RLt C' W') : Rl C' W' := by
  have hb := r.b
  have hc : ∀ a j, a < 60 ∨ 100 ≤ a ∧ a < 2000 → a ≠ 0 ∨ j ≠ 6 → C' a j = C a j := fun a j q z => by
    rcases hC a j q with e | e
    · exact e
    · omega
  have q2 := r.q.2.1
  refine ⟨r.q.mk' (fun a k => ?_) ⟨?_, ?_, ?_, ?_⟩ (fun s i hs hi => ?_), ⟨?_, ?_, h6, h23⟩, fun s hs => ?_, fun s hs => ?_, fun t ht => ?_, hL, ?_⟩
  · by_cases c : a < 60 ∨ 100 ≤ a ∧ a < 2000
    · rcases hC a k c with e | e
      · exact Or.inl e
      · rw [e.1, e.2]; exact Or.inr (Or.inl rfl)
    · refine Or.inr (Or.inl ?_)
      unfold cb
      rw [if_neg (by omega), if_neg (by omega), if_neg (by omega)]
      by_cases c' : a < 100
      · rw [if_pos c']
      · rw [if_neg c', if_neg (by omega)]
  · rw [hc 0 4 (by omega) (by omega)]; exact q2.1
  · rw [hc 0 5 (by omega) (by omega), h60]; exact q2.2.1
  · rw [h60]; exact q2.2.2.1
  · omega
  · rw [hc _ _ (by omega) (by omega), h60]
    rw [hc _ _ (by omega) (by omega)] at hi
    exact r.q.2.2 s i hs hi
  · rw [hc 0 4 (by omega) (by omega), hW0.1]; exact r.s.1
  · rw [hc 0 5 (by omega) (by omega), hW0.2.2]; exact r.s.2.1
  · exact (r.p hs).fr (hc _ _ (by omega) (by omega)) (fun j hj => hc _ _ (by omega) (by omega)) (fun j hj => hc _ _ (by omega) (by omega)) (hW _ _ (by omega) (by omega)) (fun j hj => hW _ _ (by omega) (by omega)) (fun j hj => hW _ _ (by omega) (by omega))
  · exact (r.a hs).fr (hc _ _ (by omega) (by omega)) (fun j => hc _ _ (by omega) (by omega)) hW0.2.2 hW0.2.1 (fun j => hW _ _ (by omega) (by omega))
  · rw [hW0.2.2] at ht
    exact (r.t ht).fr (fun a j h1 h2 => hc _ _ (by omega) (by omega)) (fun i hi => hW _ _ (by omega) (by omega)) (fun i j hi hj => hW _ _ (by omega) (by omega)) (fun i j hi hj => hW _ _ (by omega) (by omega)) (r.b17 ht)
  · rw [hW0.2.1, r.z]
    exact sm5 (fun s hs => (hc _ _ (by omega) (by omega)).symm)
/-- only a site's locks changed -/
theorem rl_hold (r : Rl C W) {s : Nat} (hs : s < 5) (hC : ∀ a j, a ≠ 4 + 4 * s → C' a j = C a j) (hW : ∀ i j, i ≠ 3 → W' i j = W i j) (h3 : ∀ o, o < 20 → C' (4 + 4 * s) o = W' 3 (20 * s + o)) (h3' : ∀ s' o, s' ≠ s → o < 20 → W' 3 (20 * s' + o) = W 3 (20 * s' + o)) (hb : ∀ o, C' (4 + 4 * s) o < 4294967296) : Rl C' W' := by
  have q2 := r.q.2.1
  have e0 : ∀ j, W' 0 j = W 0 j := fun j => hW 0 j (by omega)
  refine ⟨r.q.mk' (fun a k => ?_) ⟨?_, ?_, ?_, ?_⟩ (fun s' i hs' hi => ?_), ⟨?_, ?_, ?_, ?_⟩, fun s' hs' => ?_, fun s' hs' => ?_, fun t ht => ?_, fun j k hj hk => ?_, ?_⟩
  · by_cases c : a = 4 + 4 * s
    · refine Or.inr (Or.inr ?_)
      rw [c, cb_s2 s k hs]; exact hb k
    · exact Or.inl (hC a k c)
  · rw [hC 0 4 (by omega)]; exact q2.1
  · rw [hC 0 5 (by omega), hC 60 0 (by omega)]; exact q2.2.1
  · rw [hC 60 0 (by omega)]; exact q2.2.2.1
  · rw [hC 60 1 (by omega)]; exact q2.2.2.2
  · rw [hC _ _ (by omega), hC _ _ (by omega)]
    rw [hC _ _ (by omega)] at hi
    exact r.q.2.2 s' i hs' hi
  · rw [hC 0 4 (by omega), e0]; exact r.s.1
  · rw [hC 0 5 (by omega), e0]; exact r.s.2.1
  · rw [hC 0 6 (by omega), e0]; exact r.s.2.2.1
  · rw [hC 60 1 (by omega), e0]; exact r.s.2.2.2
  · by_cases c : s' = s
    · subst c
      exact ⟨by rw [hC _ _ (by omega), hW _ _ (by omega)]; exact (r.p hs').1, fun j hj => by rw [hC _ _ (by omega), hW _ _ (by omega)]; exact (r.p hs').2.1 j hj, h3⟩
    · exact (r.p hs').fr (hC _ _ (by omega)) (fun j hj => hC _ _ (by omega)) (fun j hj => hC _ _ (by omega)) (hW _ _ (by omega)) (fun j hj => hW _ _ (by omega)) (fun j hj => h3' s' j c hj)
  · exact (r.a hs').fr (hC _ _ (by omega)) (fun j => hC _ _ (by omega)) (e0 _) (e0 _) (fun j => hW _ _ (by omega))
  · rw [e0] at ht
    exact (r.t ht).fr (fun a j h1 h2 => hC _ _ (by omega)) (fun i hi => hW _ _ (by omega)) (fun i j hi hj => hW _ _ (by omega)) (fun i j hi hj => hW _ _ (by omega)) (r.b17 ht)
  · rw [e0] at hj
    rw [hC _ _ (by omega), hW _ _ (by omega)]; exact r.l j k hj hk
  · rw [e0, r.z]
    exact sm5 (fun s' hs' => (hC _ _ (by omega)).symm)
/-- only cells of one transaction changed -/
def own (i j t : Nat) : Prop := ((i = 4 ∨ i = 5 ∨ i = 6 ∨ i = 17 ∨ i = 18 ∨ i = 19) ∧ j = t) ∨ ((i = 7 ∨ i = 9 ∨ i = 10 ∨ i = 11 ∨ i = 12) ∧ 5 * t ≤ j ∧ j < 5 * t + 5) ∨ ((i = 13 ∨ i = 14 ∨ i = 15 ∨ i = 16) ∧ 20 * t ≤ j ∧ j < 20 * t + 20)
def Wt (W W' : Ab) (t : Nat) : Prop := ∀ i j, ¬ own i j t → W' i j = W i j
theorem Wt.refl (W : Ab) (t : Nat) : Wt W W t := fun _ _ _ => rfl
theorem Wt.u {t : Nat} (h : Wt W W' t) {i j : Nat} (o : own i j t) (v : Nat) : Wt W (U W' i j v) t := fun a b hn => by
  rw [U_ne]
  · exact h a b hn
  · by_cases c : a = i
    · by_cases c' : b = j
      · subst c c'; exact absurd o hn
      · exact Or.inr c'
    · exact Or.inl c
theorem rl_tx (r : Rl C W) {t : Nat} (ht : t < W 0 5) (hC : ∀ a j, a < 100 + 5 * t ∨ 104 + 5 * t < a → C' a j = C a j) (hW : Wt W W' t) (hq : ∀ a k, 100 + 5 * t ≤ a → a ≤ 104 + 5 * t → C' a k = C a k ∨ cb a k = 0 ∨ C' a k < cb a k) (hT : RT C' W' t) : Rl C' W' := by
  have q2 := r.q.2.1
  have hb := r.b
  have wn : ∀ i j, i < 4 ∨ i = 8 ∨ 20 ≤ i → W' i j = W i j := fun i j q => hW i j (by unfold own; omega)
  refine ⟨r.q.mk' (fun a k => ?_) ⟨?_, ?_, ?_, ?_⟩ (fun s' i hs' hi => ?_), ⟨?_, ?_, ?_, ?_⟩, fun s' hs' => ?_, fun s' hs' => ?_, fun u hu => ?_, fun j k hj hk => ?_, ?_⟩
  · by_cases c : a < 100 + 5 * t ∨ 104 + 5 * t < a
    · exact Or.inl (hC a k c)
    · exact hq a k (by omega) (by omega)
  · rw [hC 0 4 (by omega)]; exact q2.1
  · rw [hC 0 5 (by omega), hC 60 0 (by omega)]; exact q2.2.1
  · rw [hC 60 0 (by omega)]; exact q2.2.2.1
  · rw [hC 60 1 (by omega)]; exact q2.2.2.2
  · rw [hC _ _ (by omega), hC _ _ (by omega)]
    rw [hC _ _ (by omega)] at hi
    exact r.q.2.2 s' i hs' hi
  · rw [hC 0 4 (by omega), wn _ _ (by omega)]; exact r.s.1
  · rw [hC 0 5 (by omega), wn _ _ (by omega)]; exact r.s.2.1
  · rw [hC 0 6 (by omega), wn _ _ (by omega)]; exact r.s.2.2.1
  · rw [hC 60 1 (by omega), wn _ _ (by omega)]; exact r.s.2.2.2
  · exact (r.p hs').fr (hC _ _ (by omega)) (fun j hj => hC _ _ (by omega)) (fun j hj => hC _ _ (by omega)) (wn _ _ (by omega)) (fun j hj => wn _ _ (by omega)) (fun j hj => wn _ _ (by omega))
  · exact (r.a hs').fr (hC _ _ (by omega)) (fun j => hC _ _ (by omega)) (wn _ _ (by omega)) (wn _ _ (by omega)) (fun j => wn _ _ (by omega))
  · rw [wn _ _ (by omega)] at hu
    by_cases c : u = t
    · subst c; exact hT
    · exact (r.t hu).fr (fun a j h1 h2 => hC _ _ (by omega)) (fun i hi => hW _ _ (by unfold own; omega)) (fun i j hi hj => hW _ _ (by unfold own; omega)) (fun i j hi hj => hW _ _ (by unfold own; omega)) (r.b17 hu)
  · rw [wn _ _ (by omega)] at hj
    rw [hC _ _ (by omega), wn _ _ (by omega)]; exact r.l j k hj hk
  · rw [wn _ _ (by omega), r.z]
    exact sm5 (fun s' hs' => (hC _ _ (by omega)).symm)
end
/-- locks in one formula -/
theorem unl_c (W : Ab) (t s : Nat) : ∀ n j, unl W t s n 3 j = if 20 * s ≤ j ∧ j < 20 * s + n ∧ W 3 j = t then 4294967295 else W 3 j
  | 0, j => by rw [if_neg (by omega)]; rfl
  | n + 1, j => by
    have ih := unl_c W t s n
    unfold unl
    by_cases c : unl W t s n 3 (20 * s + n) = t
    · rw [if_pos c]
      by_cases e : j = 20 * s + n
      · subst e
        rw [U_s]
        rw [ih, if_neg (by omega)] at c
        rw [if_pos (by omega)]
      · rw [U_k _ _ _ e, ih]
        by_cases z : 20 * s ≤ j ∧ j < 20 * s + n ∧ W 3 j = t
        · rw [if_pos z, if_pos (by omega)]
        · rw [if_neg z, if_neg (by omega)]
    · rw [if_neg c, ih]
      rw [ih, if_neg (by omega)] at c
      by_cases z : 20 * s ≤ j ∧ j < 20 * s + n ∧ W 3 j = t
      · rw [if_pos z, if_pos (by omega)]
      · rw [if_neg z, if_neg (fun ⟨z1, z2, z3⟩ => by
          by_cases e : j = 20 * s + n
          · subst e; exact c z3
          · exact z ⟨z1, by omega, z3⟩)]
section
variable {x : Cx} {k B : Nat} {C W W0 : Ab} {M : Mm}
theorem c_unl2 {t s : Nat} (ht : t < 200) (hs : s < 5) : ∀ n o C M, St x B C W0 M → (∀ o, C (4 + 4 * s) o < 4294967296) → o ≤ 20 → 20 < n + o → ∃ C' M', fX2_unlock_2 x k n (sA B s) (i32 t) (i32 o) M = some ((), M') ∧ St x B C' W0 M' ∧ (∀ a j, a ≠ 4 + 4 * s → C' a j = C a j) ∧ ∀ o', C' (4 + 4 * s) o' = if o ≤ o' ∧ o' < 20 ∧ C (4 + 4 * s) o' = t then 4294967295 else C (4 + 4 * s) o' := by
  intro n
  induction n with
  | zero => intro o C M _ _ h1 h2; omega
  | succ n ih =>
    intro o C M h hb ho hn
    by_cases hc : 20 ≤ o
    · refine ⟨C, M, ?_, h, fun _ _ _ => rfl, fun o' => by rw [if_neg (by omega)]⟩
      rw [fX2_unlock_2]
      repeat (first
        | (with_reducible refine e_l1 ?_)
        | ((with_reducible refine e_k ?_ (kB h) ?_); focus rfl)
        | ((with_reducible refine e_p ?_ (p_s h) ?_); focus rfl)
        | ((with_reducible refine e_p ?_ (p_t h) ?_); focus rfl)
        | ((with_reducible refine e_p ?_ (p_l h) ?_); focus rfl)
        | ((with_reducible refine e_p ?_ (p_f h) ?_); focus rfl)
        | ((with_reducible apply e_o1); focus (simp (disch := omega) only [b_all, sV_all, ↓reduceIte, Nat.reduceEqDiff, Nat.reduceLT, Nat.reduceLeDiff, Nat.reduceAdd, Nat.reduceMul, Nat.reduceSub, i_lit, eq_self, and_true, true_and, and_self, not_true_eq_false, not_false_eq_true, or_true, true_or, or_false, false_or, false_and, and_false, reduceCtorEq, Nat.add_left_cancel_iff, Nat.add_zero, Nat.zero_add, cd_all h]; first | done | rfl))
        | ((with_reducible refine e_ip ?_ ?_); focus (simp (disch := omega) only [b_all, sV_all, ↓reduceIte, Nat.reduceEqDiff, Nat.reduceLT, Nat.reduceLeDiff, Nat.reduceAdd, Nat.reduceMul, Nat.reduceSub, i_lit, eq_self, and_true, true_and, and_self, not_true_eq_false, not_false_eq_true, or_true, true_or, or_false, false_or, false_and, and_false, reduceCtorEq, Nat.add_left_cancel_iff, Nat.add_zero, Nat.zero_add, cd_all h]; done))
        | ((with_reducible refine e_in ?_ ?_); focus (simp (disch := omega) only [b_all, sV_all, ↓reduceIte, Nat.reduceEqDiff, Nat.reduceLT, Nat.reduceLeDiff, Nat.reduceAdd, Nat.reduceMul, Nat.reduceSub, i_lit, eq_self, and_true, true_and, and_self, not_true_eq_false, not_false_eq_true, or_true, true_or, or_false, false_or, false_and, and_false, reduceCtorEq, Nat.add_left_cancel_iff, Nat.add_zero, Nat.zero_add, cd_all h]; done))
        | fail)
      first | with_reducible rfl | simp (disch := omega) only [b_all, sV_all, ↓reduceIte, Nat.reduceEqDiff, Nat.reduceLT, Nat.reduceLeDiff, Nat.reduceAdd, Nat.reduceMul, Nat.reduceSub, i_lit, eq_self, and_true, true_and, and_self, not_true_eq_false, not_false_eq_true, or_true, true_or, or_false, false_or, false_and, and_false, reduceCtorEq, Nat.add_left_cancel_iff, Nat.add_zero, Nat.zero_add, cd_all h]
    · have hbo := hb o
      by_cases c : C (4 + 4 * s) o = t
      · obtain ⟨C', M', e, h', f1, f2⟩ := ih (o + 1) _ _ (suS2 h hs o 4294967295) (fun o' => by
          by_cases q : o' = o
          · rw [q, U_s]; omega
          · rw [U_k _ _ _ q]; exact hb o') (by omega) (by omega)
        refine ⟨C', M', ?_, h', fun a j ha => by rw [f1 a j ha, U_r _ ha], fun o' => ?_⟩
        · rw [← e, fX2_unlock_2]
          repeat (first
            | (with_reducible refine e_l1 ?_)
            | ((with_reducible refine e_k ?_ (kB h) ?_); focus rfl)
            | ((with_reducible refine e_p ?_ (p_s h) ?_); focus rfl)
            | ((with_reducible refine e_p ?_ (p_t h) ?_); focus rfl)
            | ((with_reducible refine e_p ?_ (p_l h) ?_); focus rfl)
            | ((with_reducible refine e_p ?_ (p_f h) ?_); focus rfl)
            | ((with_reducible apply e_o1); focus (simp (disch := omega) only [b_all, sV_all, ↓reduceIte, Nat.reduceEqDiff, Nat.reduceLT, Nat.reduceLeDiff, Nat.reduceAdd, Nat.reduceMul, Nat.reduceSub, i_lit, eq_self, and_true, true_and, and_self, not_true_eq_false, not_false_eq_true, or_true, true_or, or_false, false_or, false_and, and_false, reduceCtorEq, Nat.add_left_cancel_iff, Nat.add_zero, Nat.zero_add, cd_all h]; first | done | rfl))
            | ((with_reducible refine e_ip ?_ ?_); focus (simp (disch := omega) only [b_all, sV_all, ↓reduceIte, Nat.reduceEqDiff, Nat.reduceLT, Nat.reduceLeDiff, Nat.reduceAdd, Nat.reduceMul, Nat.reduceSub, i_lit, eq_self, and_true, true_and, and_self, not_true_eq_false, not_false_eq_true, or_true, true_or, or_false, false_or, false_and, and_false, reduceCtorEq, Nat.add_left_cancel_iff, Nat.add_zero, Nat.zero_add, cd_all h]; done))
            | ((with_reducible refine e_in ?_ ?_); focus (simp (disch := omega) only [b_all, sV_all, ↓reduceIte, Nat.reduceEqDiff, Nat.reduceLT, Nat.reduceLeDiff, Nat.reduceAdd, Nat.reduceMul, Nat.reduceSub, i_lit, eq_self, and_true, true_and, and_self, not_true_eq_false, not_false_eq_true, or_true, true_or, or_false, false_or, false_and, and_false, reduceCtorEq, Nat.add_left_cancel_iff, Nat.add_zero, Nat.zero_add, cd_all h]; done))
            | unfold fX2_unlock_25
            | fail)
          first | with_reducible rfl | simp (disch := omega) only [b_all, sV_all, ↓reduceIte, Nat.reduceEqDiff, Nat.reduceLT, Nat.reduceLeDiff, Nat.reduceAdd, Nat.reduceMul, Nat.reduceSub, i_lit, eq_self, and_true, true_and, and_self, not_true_eq_false, not_false_eq_true, or_true, true_or, or_false, false_or, false_and, and_false, reduceCtorEq, Nat.add_left_cancel_iff, Nat.add_zero, Nat.zero_add, cd_all h]
        · rw [f2]
          by_cases q : o' = o
          · rw [q, U_s, if_neg (by omega), if_pos ⟨Nat.le_refl _, by omega, c⟩]
          · rw [U_k _ _ _ q]
            by_cases z : o ≤ o' ∧ o' < 20 ∧ C (4 + 4 * s) o' = t
            · rw [if_pos z, if_pos (by omega)]
            · rw [if_neg z, if_neg (by omega)]
      · obtain ⟨C', M', e, h', f1, f2⟩ := ih (o + 1) _ _ h hb (by omega) (by omega)
        refine ⟨C', M', ?_, h', f1, fun o' => ?_⟩
        · rw [← e, fX2_unlock_2]
          repeat (first
            | (with_reducible refine e_l1 ?_)
            | ((with_reducible refine e_k ?_ (kB h) ?_); focus rfl)
            | ((with_reducible refine e_p ?_ (p_s h) ?_); focus rfl)
            | ((with_reducible refine e_p ?_ (p_t h) ?_); focus rfl)
            | ((with_reducible refine e_p ?_ (p_l h) ?_); focus rfl)
            | ((with_reducible refine e_p ?_ (p_f h) ?_); focus rfl)
            | ((with_reducible apply e_o1); focus (simp (disch := omega) only [b_all, sV_all, ↓reduceIte, Nat.reduceEqDiff, Nat.reduceLT, Nat.reduceLeDiff, Nat.reduceAdd, Nat.reduceMul, Nat.reduceSub, i_lit, eq_self, and_true, true_and, and_self, not_true_eq_false, not_false_eq_true, or_true, true_or, or_false, false_or, false_and, and_false, reduceCtorEq, Nat.add_left_cancel_iff, Nat.add_zero, Nat.zero_add, cd_all h]; first | done | rfl))
            | ((with_reducible refine e_ip ?_ ?_); focus (simp (disch := omega) only [b_all, sV_all, ↓reduceIte, Nat.reduceEqDiff, Nat.reduceLT, Nat.reduceLeDiff, Nat.reduceAdd, Nat.reduceMul, Nat.reduceSub, i_lit, eq_self, and_true, true_and, and_self, not_true_eq_false, not_false_eq_true, or_true, true_or, or_false, false_or, false_and, and_false, reduceCtorEq, Nat.add_left_cancel_iff, Nat.add_zero, Nat.zero_add, cd_all h]; done))
            | ((with_reducible refine e_in ?_ ?_); focus (simp (disch := omega) only [b_all, sV_all, ↓reduceIte, Nat.reduceEqDiff, Nat.reduceLT, Nat.reduceLeDiff, Nat.reduceAdd, Nat.reduceMul, Nat.reduceSub, i_lit, eq_self, and_true, true_and, and_self, not_true_eq_false, not_false_eq_true, or_true, true_or, or_false, false_or, false_and, and_false, reduceCtorEq, Nat.add_left_cancel_iff, Nat.add_zero, Nat.zero_add, cd_all h]; done))
            | unfold fX2_unlock_25
            | fail)
          first | with_reducible rfl | simp (disch := omega) only [b_all, sV_all, ↓reduceIte, Nat.reduceEqDiff, Nat.reduceLT, Nat.reduceLeDiff, Nat.reduceAdd, Nat.reduceMul, Nat.reduceSub, i_lit, eq_self, and_true, true_and, and_self, not_true_eq_false, not_false_eq_true, or_true, true_or, or_false, false_or, false_and, and_false, reduceCtorEq, Nat.add_left_cancel_iff, Nat.add_zero, Nat.zero_add, cd_all h]
        · rw [f2]
          by_cases z : o ≤ o' ∧ o' < 20 ∧ C (4 + 4 * s) o' = t
          · rw [if_pos z, if_pos ⟨by
              by_cases q : o' = o
              · subst q; exact absurd z.2.2 c
              · omega, z.2⟩]
          · rw [if_neg z, if_neg (fun z' => z ⟨by omega, z'.2⟩)]
theorem c_unl (hk : 5000 ≤ k) (h : St x B C W0 M) {t s : Nat} (ht : t < 200) (hs : s < 5) (hb : ∀ o, C (4 + 4 * s) o < 4294967296) : ∃ C' M', fX2_unlock x k (sA B s) (i32 t) M = some ((), M') ∧ St x B C' W0 M' ∧ (∀ a j, a ≠ 4 + 4 * s → C' a j = C a j) ∧ ∀ o', C' (4 + 4 * s) o' = if o' < 20 ∧ C (4 + 4 * s) o' = t then 4294967295 else C (4 + 4 * s) o' := by
  obtain ⟨C', M', e, h', f1, f2⟩ := c_unl2 (k := k) ht hs k 0 C M h hb (by omega) (by omega)
  refine ⟨C', M', e, h', f1, fun o' => ?_⟩
  rw [f2]
  by_cases z : o' < 20 ∧ C (4 + 4 * s) o' = t
  · rw [if_pos z, if_pos ⟨by omega, z⟩]
  · rw [if_neg z, if_neg (fun q => z q.2)]
/-- unlocking, related -/
theorem r_unl (r : Rl C W) {C' : Ab} {t s : Nat} (hs : s < 5) (f1 : ∀ a j, a ≠ 4 + 4 * s → C' a j = C a j) (f2 : ∀ o', C' (4 + 4 * s) o' = if o' < 20 ∧ C (4 + 4 * s) o' = t then 4294967295 else C (4 + 4 * s) o') : Rl C' (unl W t s 20) := by
  refine rl_hold r hs f1 (fun i j hi => unl_r W t s hi j 20) (fun o ho => ?_) (fun s' o hne ho => ?_) (fun o => ?_)
  · rw [f2, unl_c, (r.p hs).2.2 o ho]
    by_cases z : W 3 (20 * s + o) = t
    · rw [if_pos ⟨ho, z⟩, if_pos ⟨by omega, by omega, z⟩]
    · rw [if_neg (fun q => z q.2), if_neg (fun q => z q.2.2)]
  · rw [unl_c, if_neg (by omega)]
  · rw [f2]
    have := cbS2 r.q hs o
    split <;> omega
theorem c_lk2 (h : St x B C W0 M) (r : Rl C W) {t s : Nat} (ht : t < W 0 5) (hs : s < 5) : ∀ n o C' M, St x B C' W0 M → Rl C' (lk W t s o) → Kp C C' → o ≤ 20 → 20 < n + o → ∃ C' M', fX4_lockAt_2 x k n B (C 70 t) (i32 s) (i32 o) M = some ((), M') ∧ St x B C' W0 M' ∧ Rl C' (lk W t s 20) ∧ Kp C C' := by
  intro n
  induction n with
  | zero => intro o C M _ _ _ h1 h2; omega
  | succ n ih =>
    intro o C' M h r' kp ho hn
    have l5 : lk W t s o 0 5 = W 0 5 := lk_r _ _ _ (by omega) _ _
    have l0 : lk W t s o 0 0 = W 0 0 := lk_r _ _ _ (by omega) _ _
    have lw : wr (lk W t s o) t o ↔ wr W t o := by unfold wr; rw [lk_r _ _ _ (by omega)]
    have ht' : t < lk W t s o 0 5 := by omega
    have htc := r'.c ht'
    have e70 := kp.2.1 t
    by_cases hc : 20 ≤ o
    · obtain rfl : o = 20 := by omega
      refine ⟨C', M, ?_, h, r', kp⟩
      rw [fX4_lockAt_2]
      repeat (first
        | (with_reducible refine e_l1 ?_)
        | ((with_reducible refine e_k ?_ (kB h) ?_); focus rfl)
        | ((with_reducible refine e_p ?_ (p_s h) ?_); focus rfl)
        | ((with_reducible refine e_p ?_ (p_t h) ?_); focus rfl)
        | ((with_reducible refine e_p ?_ (p_l h) ?_); focus rfl)
        | ((with_reducible refine e_p ?_ (p_f h) ?_); focus rfl)
        | ((with_reducible apply e_o1); focus (simp (disch := omega) only [b_all, sV_all, ↓reduceIte, Nat.reduceEqDiff, Nat.reduceLT, Nat.reduceLeDiff, Nat.reduceAdd, Nat.reduceMul, Nat.reduceSub, i_lit, eq_self, and_true, true_and, and_self, not_true_eq_false, not_false_eq_true, or_true, true_or, or_false, false_or, false_and, and_false, reduceCtorEq, Nat.add_left_cancel_iff, Nat.add_zero, Nat.zero_add, cd_all h]; first | done | rfl))
        | ((with_reducible refine e_ip ?_ ?_); focus (simp (disch := omega) only [b_all, sV_all, ↓reduceIte, Nat.reduceEqDiff, Nat.reduceLT, Nat.reduceLeDiff, Nat.reduceAdd, Nat.reduceMul, Nat.reduceSub, i_lit, eq_self, and_true, true_and, and_self, not_true_eq_false, not_false_eq_true, or_true, true_or, or_false, false_or, false_and, and_false, reduceCtorEq, Nat.add_left_cancel_iff, Nat.add_zero, Nat.zero_add, cd_all h]; done))
        | ((with_reducible refine e_in ?_ ?_); focus (simp (disch := omega) only [b_all, sV_all, ↓reduceIte, Nat.reduceEqDiff, Nat.reduceLT, Nat.reduceLeDiff, Nat.reduceAdd, Nat.reduceMul, Nat.reduceSub, i_lit, eq_self, and_true, true_and, and_self, not_true_eq_false, not_false_eq_true, or_true, true_or, or_false, false_or, false_and, and_false, reduceCtorEq, Nat.add_left_cancel_iff, Nat.add_zero, Nat.zero_add, cd_all h]; done))
        | fail)
      first | with_reducible rfl | simp (disch := omega) only [b_all, sV_all, ↓reduceIte, Nat.reduceEqDiff, Nat.reduceLT, Nat.reduceLeDiff, Nat.reduceAdd, Nat.reduceMul, Nat.reduceSub, i_lit, eq_self, and_true, true_and, and_self, not_true_eq_false, not_false_eq_true, or_true, true_or, or_false, false_or, false_and, and_false, reduceCtorEq, Nat.add_left_cancel_iff, Nat.add_zero, Nat.zero_add, cd_all h]
    · have ew := c_hwh (k := k) h r' ht' (show o < 20 by omega) hs
      rw [l0, bp_iff (and_congr lw Iff.rfl)] at ew
      have e0 := (r'.t ht').1.1
      have hb := r'.b
      rw [← e70]
      by_cases c : wr W t o ∧ o % W 0 0 = s
      · rw [bp_t c] at ew
        have elk : lk W t s (o + 1) = U (lk W t s o) 3 (20 * s + o) t := if_pos c
        obtain ⟨C2, M2, e, h2, r2, kp2⟩ := ih (o + 1) (U C' (4 + 4 * s) o t) _ (suS2 h hs o t) (by
          rw [elk]
          refine rl_hold r' hs (fun a j ha => U_r _ ha _ _ _) (fun i j hi => U_r _ hi _ _ _) (fun o' ho' => ?_) (fun s' o' hne ho' => U_k _ _ _ (by omega) _) (fun o' => ?_)
          · by_cases q : o' = o
            · rw [q, U_s, U_s]
            · rw [U_k _ _ _ q, U_k _ _ _ (by omega)]; exact (r'.p hs).2.2 o' ho'
          · have := cbS2 r'.q hs o'
            by_cases q : o' = o
            · rw [q, U_s]; omega
            · rw [U_k _ _ _ q]; exact this) (kp.trans (Kp.low (fun a j h1 h2 => U_r _ (by omega) _ _ _))) (by omega) (by omega)
        refine ⟨C2, M2, ?_, h2, r2, kp2⟩
        rw [← e, ← e70, fX4_lockAt_2]
        repeat (first
          | (with_reducible refine e_l1 ?_)
          | ((with_reducible refine e_k ?_ (kB h) ?_); focus rfl)
          | ((with_reducible refine e_p ?_ (p_s h) ?_); focus rfl)
          | ((with_reducible refine e_p ?_ (p_t h) ?_); focus rfl)
          | ((with_reducible refine e_p ?_ (p_l h) ?_); focus rfl)
          | ((with_reducible refine e_p ?_ (p_f h) ?_); focus rfl)
          | ((with_reducible refine e_o2 ?_ ew ?_); focus (first | with_reducible rfl | (simp (disch := omega) only [b_all, sV_all, ↓reduceIte, Nat.reduceEqDiff, Nat.reduceLT, Nat.reduceLeDiff, Nat.reduceAdd, Nat.reduceMul, Nat.reduceSub, i_lit, eq_self, and_true, true_and, and_self, not_true_eq_false, not_false_eq_true, or_true, true_or, or_false, false_or, false_and, and_false, reduceCtorEq, Nat.add_left_cancel_iff, Nat.add_zero, Nat.zero_add, cd_all h, e0]; done)))
          | ((with_reducible refine e_T ?_ ew ?_); focus (first | with_reducible rfl | (simp (disch := omega) only [b_all, sV_all, ↓reduceIte, Nat.reduceEqDiff, Nat.reduceLT, Nat.reduceLeDiff, Nat.reduceAdd, Nat.reduceMul, Nat.reduceSub, i_lit, eq_self, and_true, true_and, and_self, not_true_eq_false, not_false_eq_true, or_true, true_or, or_false, false_or, false_and, and_false, reduceCtorEq, Nat.add_left_cancel_iff, Nat.add_zero, Nat.zero_add, cd_all h, e0]; done)))
          | ((with_reducible refine e_X ?_ ew ?_); focus (first | with_reducible rfl | (simp (disch := omega) only [b_all, sV_all, ↓reduceIte, Nat.reduceEqDiff, Nat.reduceLT, Nat.reduceLeDiff, Nat.reduceAdd, Nat.reduceMul, Nat.reduceSub, i_lit, eq_self, and_true, true_and, and_self, not_true_eq_false, not_false_eq_true, or_true, true_or, or_false, false_or, false_and, and_false, reduceCtorEq, Nat.add_left_cancel_iff, Nat.add_zero, Nat.zero_add, cd_all h, e0]; done)))
          | ((with_reducible apply e_o1); focus (simp (disch := omega) only [b_all, sV_all, ↓reduceIte, Nat.reduceEqDiff, Nat.reduceLT, Nat.reduceLeDiff, Nat.reduceAdd, Nat.reduceMul, Nat.reduceSub, i_lit, eq_self, and_true, true_and, and_self, not_true_eq_false, not_false_eq_true, or_true, true_or, or_false, false_or, false_and, and_false, reduceCtorEq, Nat.add_left_cancel_iff, Nat.add_zero, Nat.zero_add, cd_all h, e0]; first | done | rfl))
          | ((with_reducible refine e_ip ?_ ?_); focus (simp (disch := omega) only [b_all, sV_all, ↓reduceIte, Nat.reduceEqDiff, Nat.reduceLT, Nat.reduceLeDiff, Nat.reduceAdd, Nat.reduceMul, Nat.reduceSub, i_lit, eq_self, and_true, true_and, and_self, not_true_eq_false, not_false_eq_true, or_true, true_or, or_false, false_or, false_and, and_false, reduceCtorEq, Nat.add_left_cancel_iff, Nat.add_zero, Nat.zero_add, cd_all h, e0]; done))
          | ((with_reducible refine e_in ?_ ?_); focus (simp (disch := omega) only [b_all, sV_all, ↓reduceIte, Nat.reduceEqDiff, Nat.reduceLT, Nat.reduceLeDiff, Nat.reduceAdd, Nat.reduceMul, Nat.reduceSub, i_lit, eq_self, and_true, true_and, and_self, not_true_eq_false, not_false_eq_true, or_true, true_or, or_false, false_or, false_and, and_false, reduceCtorEq, Nat.add_left_cancel_iff, Nat.add_zero, Nat.zero_add, cd_all h, e0]; done))
          | unfold fX4_lockAt_33
          | fail)
        first | with_reducible rfl | simp (disch := omega) only [b_all, sV_all, ↓reduceIte, Nat.reduceEqDiff, Nat.reduceLT, Nat.reduceLeDiff, Nat.reduceAdd, Nat.reduceMul, Nat.reduceSub, i_lit, eq_self, and_true, true_and, and_self, not_true_eq_false, not_false_eq_true, or_true, true_or, or_false, false_or, false_and, and_false, reduceCtorEq, Nat.add_left_cancel_iff, Nat.add_zero, Nat.zero_add, cd_all h, e0]
      · rw [bp_f c] at ew
        have elk : lk W t s (o + 1) = lk W t s o := if_neg c
        rw [← elk] at r'
        obtain ⟨C2, M2, e, h2, r2, kp2⟩ := ih (o + 1) C' M h r' kp (by omega) (by omega)
        refine ⟨C2, M2, ?_, h2, r2, kp2⟩
        rw [← e, ← e70, fX4_lockAt_2]
        repeat (first
          | (with_reducible refine e_l1 ?_)
          | ((with_reducible refine e_k ?_ (kB h) ?_); focus rfl)
          | ((with_reducible refine e_p ?_ (p_s h) ?_); focus rfl)
          | ((with_reducible refine e_p ?_ (p_t h) ?_); focus rfl)
          | ((with_reducible refine e_p ?_ (p_l h) ?_); focus rfl)
          | ((with_reducible refine e_p ?_ (p_f h) ?_); focus rfl)
          | ((with_reducible refine e_o2 ?_ ew ?_); focus (first | with_reducible rfl | (simp (disch := omega) only [b_all, sV_all, ↓reduceIte, Nat.reduceEqDiff, Nat.reduceLT, Nat.reduceLeDiff, Nat.reduceAdd, Nat.reduceMul, Nat.reduceSub, i_lit, eq_self, and_true, true_and, and_self, not_true_eq_false, not_false_eq_true, or_true, true_or, or_false, false_or, false_and, and_false, reduceCtorEq, Nat.add_left_cancel_iff, Nat.add_zero, Nat.zero_add, cd_all h]; done)))
          | ((with_reducible refine e_T ?_ ew ?_); focus (first | with_reducible rfl | (simp (disch := omega) only [b_all, sV_all, ↓reduceIte, Nat.reduceEqDiff, Nat.reduceLT, Nat.reduceLeDiff, Nat.reduceAdd, Nat.reduceMul, Nat.reduceSub, i_lit, eq_self, and_true, true_and, and_self, not_true_eq_false, not_false_eq_true, or_true, true_or, or_false, false_or, false_and, and_false, reduceCtorEq, Nat.add_left_cancel_iff, Nat.add_zero, Nat.zero_add, cd_all h]; done)))
          | ((with_reducible refine e_X ?_ ew ?_); focus (first | with_reducible rfl | (simp (disch := omega) only [b_all, sV_all, ↓reduceIte, Nat.reduceEqDiff, Nat.reduceLT, Nat.reduceLeDiff, Nat.reduceAdd, Nat.reduceMul, Nat.reduceSub, i_lit, eq_self, and_true, true_and, and_self, not_true_eq_false, not_false_eq_true, or_true, true_or, or_false, false_or, false_and, and_false, reduceCtorEq, Nat.add_left_cancel_iff, Nat.add_zero, Nat.zero_add, cd_all h]; done)))
          | ((with_reducible apply e_o1); focus (simp (disch := omega) only [b_all, sV_all, ↓reduceIte, Nat.reduceEqDiff, Nat.reduceLT, Nat.reduceLeDiff, Nat.reduceAdd, Nat.reduceMul, Nat.reduceSub, i_lit, eq_self, and_true, true_and, and_self, not_true_eq_false, not_false_eq_true, or_true, true_or, or_false, false_or, false_and, and_false, reduceCtorEq, Nat.add_left_cancel_iff, Nat.add_zero, Nat.zero_add, cd_all h]; first | done | rfl))
          | ((with_reducible refine e_ip ?_ ?_); focus (simp (disch := omega) only [b_all, sV_all, ↓reduceIte, Nat.reduceEqDiff, Nat.reduceLT, Nat.reduceLeDiff, Nat.reduceAdd, Nat.reduceMul, Nat.reduceSub, i_lit, eq_self, and_true, true_and, and_self, not_true_eq_false, not_false_eq_true, or_true, true_or, or_false, false_or, false_and, and_false, reduceCtorEq, Nat.add_left_cancel_iff, Nat.add_zero, Nat.zero_add, cd_all h]; done))
          | ((with_reducible refine e_in ?_ ?_); focus (simp (disch := omega) only [b_all, sV_all, ↓reduceIte, Nat.reduceEqDiff, Nat.reduceLT, Nat.reduceLeDiff, Nat.reduceAdd, Nat.reduceMul, Nat.reduceSub, i_lit, eq_self, and_true, true_and, and_self, not_true_eq_false, not_false_eq_true, or_true, true_or, or_false, false_or, false_and, and_false, reduceCtorEq, Nat.add_left_cancel_iff, Nat.add_zero, Nat.zero_add, cd_all h]; done))
          | unfold fX4_lockAt_33
          | fail)
        first | with_reducible rfl | simp (disch := omega) only [b_all, sV_all, ↓reduceIte, Nat.reduceEqDiff, Nat.reduceLT, Nat.reduceLeDiff, Nat.reduceAdd, Nat.reduceMul, Nat.reduceSub, i_lit, eq_self, and_true, true_and, and_self, not_true_eq_false, not_false_eq_true, or_true, true_or, or_false, false_or, false_and, and_false, reduceCtorEq, Nat.add_left_cancel_iff, Nat.add_zero, Nat.zero_add, cd_all h]
theorem c_lk (hk : 5000 ≤ k) (h : St x B C W0 M) (r : Rl C W) {t s : Nat} (ht : t < W 0 5) (hs : s < 5) : ∃ C' M', fX4_lockAt x k B (C 70 t) (i32 s) M = some ((), M') ∧ St x B C' W0 M' ∧ Rl C' (lk W t s 20) ∧ Kp C C' :=
  c_lk2 h r ht hs k 0 C M h r (Kp.refl C) (by omega) (by omega)
end
