/-! The invariants over the calls -/
theorem fl_c (W : Ab) (i v : Nat) : ∀ n a j, fl W i v n a j = if a = i ∧ j < n then v else W a j
  | 0, a, j => by rw [if_neg (by omega)]; rfl
  | n + 1, a, j => by
    show U (fl W i v n) i n v a j = _
    by_cases c : a = i ∧ j = n
    · rw [c.1, c.2, U_s, if_pos (by omega)]
    · rw [U_ne _ (by omega), fl_c W i v n a j]
      by_cases z : a = i ∧ j < n
      · rw [if_pos z, if_pos (by omega)]
      · rw [if_neg z, if_neg (by omega)]
section
variable {W W' : Ab}
theorem bg_0 (W : Ab) (n : Nat) : wBegins W n 0 0 = n ∧ wBegins W n 0 4 = 0 ∧ wBegins W n 0 5 = 0 ∧ wBegins W n 0 23 = 0 ∧ wBegins W n 0 24 = 0 := by
  unfold wBegins
  simp (disch := omega) only [fl_c, U_ne, U_s]
  simp
theorem bg_r (W : Ab) (n : Nat) {i : Nat} (hi : i ≠ 0) (j : Nat) : wBegins W n i j = if i = 3 ∧ j < 100 then 4294967295 else if i = 2 ∧ j < 5 then 0 else if i = 1 ∧ j < 25 then 0 else W i j := by
  unfold wBegins
  simp (disch := omega) only [fl_c, U_ne]
theorem bg_27 (W : Ab) (n : Nat) : wBegins W n 0 27 = W 0 27 := by
  unfold wBegins
  simp (disch := omega) only [fl_c, U_ne]
  simp
theorem inv_open (hb : Bd W) (h12 : ∀ j, 25 ≤ j → W 1 j = 0) {n : Nat} (h2 : 2 ≤ n) (h5 : n ≤ 5) : Inv (wBegins W n) := by
  obtain ⟨a0, a4, a5, a23, a24⟩ := bg_0 W n
  have z1 : ∀ j, wBegins W n 1 j = 0 := fun j => by
    rw [bg_r _ _ (by omega), if_neg (by omega), if_neg (by omega)]
    by_cases c : j < 25
    · rw [if_pos ⟨rfl, c⟩]
    · rw [if_neg (by omega)]; exact h12 j (by omega)
  refine ⟨⟨by omega, fun i j hi => ?_⟩, ⟨fun u s hu => by omega, fun u s hu => by omega, fun u hu => by omega, fun u v hu => by omega, fun s a _ _ => by rw [z1, z1]; exact Nat.le_refl _, fun t j ht => by omega, fun t j ht => by omega, fun t ht => by omega, fun t s ht => by omega, fun j => by rw [z1]; omega, fun j _ => z1 j, fun s j _ _ _ => z1 _⟩, fun t s ht => by omega, fun t ht => by omega, fun j hj => by omega, fun t ht => by omega⟩
  rw [bg_r _ _ (by omega)]
  have := hb.2 i j hi
  split
  · rename_i z; rw [z.1]; decide
  · split
    · rename_i z; rw [z.1]; decide
    · split
      · rename_i z; rw [z.1]; decide
      · exact this
/-- a new transaction -/
theorem bgB_c (A : Ab) (s t : Nat) : ∀ n, n ≤ 5 → ∀ i j, bgB A s t n i j = if 5 * t ≤ j ∧ j < 5 * t + n ∧ (i = 7 ∨ i = 8 ∨ i = 9 ∨ i = 10 ∨ i = 11 ∨ i = 12) then (if i = 7 then A 1 (5 * s + (j - 5 * t)) else 0) else A i j
  | 0, _, i, j => by rw [if_neg (by omega)]; rfl
  | n + 1, hn, i, j => by
    have ih := bgB_c A s t n (by omega)
    have e1 : bgB A s t n 1 (5 * s + n) = A 1 (5 * s + n) := by rw [ih, if_neg (by omega)]
    show U (U (U (U (U (U (bgB A s t n) 7 (5 * t + n) (bgB A s t n 1 (5 * s + n))) 8 (5 * t + n) 0) 9 (5 * t + n) 0) 10 (5 * t + n) 0) 11 (5 * t + n) 0) 12 (5 * t + n) 0 i j = _
    rw [e1]
    by_cases c : j = 5 * t + n
    · subst c
      by_cases c12 : i = 12
      · subst c12; rw [U_s, if_pos (by omega), if_neg (by omega)]
      · rw [U_ne _ (by omega)]
        by_cases c11 : i = 11
        · subst c11; rw [U_s, if_pos (by omega), if_neg (by omega)]
        · rw [U_ne _ (by omega)]
          by_cases c10 : i = 10
          · subst c10; rw [U_s, if_pos (by omega), if_neg (by omega)]
          · rw [U_ne _ (by omega)]
            by_cases c9 : i = 9
            · subst c9; rw [U_s, if_pos (by omega), if_neg (by omega)]
            · rw [U_ne _ (by omega)]
              by_cases c8 : i = 8
              · subst c8; rw [U_s, if_pos (by omega), if_neg (by omega)]
              · rw [U_ne _ (by omega)]
                by_cases c7 : i = 7
                · subst c7; rw [U_s, if_pos (by omega), if_pos rfl, show 5 * t + n - 5 * t = n by omega]
                · rw [U_ne _ (by omega), ih, if_neg (by omega), if_neg (by omega)]
    · simp (disch := omega) only [U_ne]
      rw [ih]
      by_cases z : 5 * t ≤ j ∧ j < 5 * t + n ∧ (i = 7 ∨ i = 8 ∨ i = 9 ∨ i = 10 ∨ i = 11 ∨ i = 12)
      · rw [if_pos z, if_pos (show 5 * t ≤ j ∧ j < 5 * t + (n + 1) ∧ (i = 7 ∨ i = 8 ∨ i = 9 ∨ i = 10 ∨ i = 11 ∨ i = 12) from ⟨z.1, by omega, z.2.2⟩)]
      · rw [if_neg z, if_neg (by omega)]
theorem bgC_c (A : Ab) (t : Nat) : ∀ n i j, bgC A t n i j = if i = 13 ∧ 20 * t ≤ j ∧ j < 20 * t + n then 0 else A i j
  | 0, i, j => by rw [if_neg (by omega)]; rfl
  | n + 1, i, j => by
    show U (bgC A t n) 13 (20 * t + n) 0 i j = _
    by_cases c : i = 13 ∧ j = 20 * t + n
    · rw [c.1, c.2, U_s, if_pos (by omega)]
    · rw [U_ne _ (by omega), bgC_c A t n i j]
      by_cases z : i = 13 ∧ 20 * t ≤ j ∧ j < 20 * t + n
      · rw [if_pos z, if_pos (by omega)]
      · rw [if_neg z, if_neg (by omega)]
theorem bn_r (W : Ab) (s : Nat) (i j : Nat) : wBegin W s i j = if i = 13 ∧ 20 * W 0 5 ≤ j ∧ j < 20 * W 0 5 + 20 then 0 else if 5 * W 0 5 ≤ j ∧ j < 5 * W 0 5 + 5 ∧ (i = 7 ∨ i = 8 ∨ i = 9 ∨ i = 10 ∨ i = 11 ∨ i = 12) then (if i = 7 then W 1 (5 * s + (j - 5 * W 0 5)) else 0) else bgA W s i j := by
  unfold wBegin
  rw [bgC_c]
  by_cases z : i = 13 ∧ 20 * W 0 5 ≤ j ∧ j < 20 * W 0 5 + 20
  · rw [if_pos z, if_pos z]
  · rw [if_neg z, if_neg z, bgB_c _ _ _ _ (Nat.le_refl _)]
    have e1 : ∀ q, bgA W s 1 q = W 1 q := fun q => by
      unfold bgA t00; simp (disch := omega) only [U_ne]
    rw [e1]
theorem bn_t (W : Ab) (s : Nat) : wBegin W s 0 5 = W 0 5 + 1 ∧ wBegin W s 4 (W 0 5) = s ∧ wBegin W s 5 (W 0 5) = 0 ∧ wBegin W s 6 (W 0 5) = 0 ∧ wBegin W s 17 (W 0 5) = 0 ∧ wBegin W s 18 (W 0 5) = 0 ∧ wBegin W s 19 (W 0 5) = 0 := by
  have g : ∀ i j, i ≠ 13 → i < 7 ∨ 12 < i → wBegin W s i j = bgA W s i j := fun i j h1 h2 => by
    rw [bn_r, if_neg (by omega), if_neg (by omega)]
  rw [g _ _ (by omega) (by omega), g _ _ (by omega) (by omega), g _ _ (by omega) (by omega), g _ _ (by omega) (by omega), g _ _ (by omega) (by omega), g _ _ (by omega) (by omega), g _ _ (by omega) (by omega)]
  unfold bgA
  simp (disch := omega) only [U_ne, U_s]
  simp
/-- elsewhere it is as it was -/
theorem bn_o (W : Ab) (s : Nat) {i j : Nat} (h0 : i = 0 → j ≠ 5 ∧ j ≠ 27) (h4 : i = 4 ∨ i = 5 ∨ i = 6 ∨ i = 17 ∨ i = 18 ∨ i = 19 → j ≠ W 0 5) (h7 : i = 7 ∨ i = 8 ∨ i = 9 ∨ i = 10 ∨ i = 11 ∨ i = 12 → j < 5 * W 0 5 ∨ 5 * W 0 5 + 5 ≤ j) (h13 : i = 13 → j < 20 * W 0 5 ∨ 20 * W 0 5 + 20 ≤ j) : wBegin W s i j = W i j := by
  rw [bn_r, if_neg (by omega), if_neg (by omega)]
  unfold bgA t00
  simp (disch := omega) only [U_ne]
theorem bn_7 (W : Ab) (s : Nat) {j : Nat} (hj : j < 5) : wBegin W s 7 (5 * W 0 5 + j) = W 1 (5 * s + j) := by
  rw [bn_r, if_neg (by omega), if_pos (by omega), if_pos rfl]; congr 2; omega
theorem bn_8 (W : Ab) (s : Nat) {i j : Nat} (hj : j < 5) (hi : i = 8 ∨ i = 9 ∨ i = 10 ∨ i = 11 ∨ i = 12) : wBegin W s i (5 * W 0 5 + j) = 0 := by
  rw [bn_r, if_neg (by omega), if_pos (by omega), if_neg (by omega)]
theorem bn_13 (W : Ab) (s : Nat) {j : Nat} (hj : j < 20) : wBegin W s 13 (20 * W 0 5 + j) = 0 := by
  rw [bn_r, if_pos (by omega)]
theorem inv_begin (h : Inv W) {s : Nat} (hs : s < W 0 0) (hc : W 0 5 < 200) : Inv (wBegin W s) := by
  obtain ⟨b, ⟨j1, j2, j3, j4, j5, j6, j7, j8, j9, j12⟩, r, a, l, iw⟩ := h
  have hb := b.1
  obtain ⟨t5, b4, b5, b6, b17, b18, b19⟩ := bn_t W s
  have o0 : ∀ j, j ≠ 5 → j ≠ 27 → wBegin W s 0 j = W 0 j := fun j h1 h2 => bn_o W s (by omega) (by omega) (by omega) (by omega)
  have o1 : ∀ j, wBegin W s 1 j = W 1 j := fun j => bn_o W s (by omega) (by omega) (by omega) (by omega)
  have o4 : ∀ i u, i = 4 ∨ i = 5 ∨ i = 6 ∨ i = 18 → u < W 0 5 → wBegin W s i u = W i u := fun i u hi hu => bn_o W s (by omega) (by omega) (by omega) (by omega)
  have o7 : ∀ i u j, i = 7 ∨ i = 8 ∨ i = 9 ∨ i = 11 ∨ i = 12 → u < W 0 5 → j < 5 → wBegin W s i (5 * u + j) = W i (5 * u + j) := fun i u j hi hu hj => bn_o W s (by omega) (by omega) (by omega) (by omega)
  have a0 := o0 0 (by omega) (by omega)
  have a4 := o0 4 (by omega) (by omega)
  refine ⟨⟨by rw [a0, t5, a4, o0 23 (by omega) (by omega)]; omega, fun i j hi => ?_⟩, ⟨fun u s' hu hs' q => ?_, fun u s' hu hs' q1 q2 => ?_, fun u hu q => ?_, fun u v hu hv hne q1 q2 q3 => ?_, ?_, fun t j ht hj => ?_, fun t j ht hj1 hj2 => ?_, fun t ht => ?_, fun t s' ht hs' q => ?_, ?_, ?_, fun s' j h1 h2 h3 => ?_⟩, fun t s' ht hs' q => ?_, fun t ht => ?_, fun j hj => ?_, fun t ht => ?_⟩
  · rw [bn_r]
    have bb := b.2 i j hi
    split
    · rename_i z; rw [z.1]; decide
    · split
      · rename_i z
        rcases z.2.2 with z | z | z | z | z | z <;> subst z
        · exact b.2 1 _ (by omega)
        all_goals (rw [if_neg (by omega)]; decide)
      · unfold bgA t00
        unfold U
        have h5 : s < 5 := by omega
        repeat' split
        all_goals first | exact bb | (rename_i z; exfalso; omega) | (rename_i z; rw [z.1]; first | exact h5 | decide)
  · rw [t5] at hu
    rw [a0]
    by_cases c : u = W 0 5
    · subst c; rw [bn_8 W s hs' (by omega)] at q; omega
    · rw [o7 _ _ _ (by omega) (by omega) hs'] at q
      rw [o4 5 _ (by omega) (by omega), o4 6 _ (by omega) (by omega), o4 4 _ (by omega) (by omega), o1]
      exact j1 u s' (by omega) hs' q
  · rw [t5] at hu
    rw [a0] at hs'
    by_cases c : u = W 0 5
    · subst c; rw [b5] at q1; omega
    · rw [o4 5 _ (by omega) (by omega)] at q1
      rw [o4 6 _ (by omega) (by omega), o4 4 _ (by omega) (by omega), o1] at q2
      rw [o7 8 _ _ (by omega) (by omega) (by omega)]
      exact j2 u s' (by omega) hs' q1 q2
  · rw [t5] at hu
    by_cases c : u = W 0 5
    · subst c; rw [b5] at q; omega
    · rw [o4 5 _ (by omega) (by omega)] at q
      rw [o4 6 _ (by omega) (by omega), o4 4 _ (by omega) (by omega), o1]
      exact j3 u (by omega) q
  · rw [t5] at hu hv
    by_cases c : u = W 0 5
    · subst c; rw [b5] at q1; omega
    · by_cases c' : v = W 0 5
      · subst c'; rw [b5] at q2; omega
      · rw [o4 5 _ (by omega) (by omega)] at q1 q2
        rw [o4 4 u (by omega) (by omega), o4 4 v (by omega) (by omega)] at q3
        rw [o4 6 u (by omega) (by omega), o4 6 v (by omega) (by omega)]
        exact j4 u v (by omega) (by omega) hne q1 q2 q3
  · intro s' a' h1 h2
    rw [a0] at h1 h2
    rw [o1, o1]; exact j5 s' a' h1 h2
  · rw [t5] at ht
    rw [a0] at hj
    by_cases c : t = W 0 5
    · subst c; rw [bn_7 W s (by omega), b4, o1]; exact Nat.le_refl _
    · rw [o7 7 _ _ (by omega) (by omega) (by omega), o4 4 _ (by omega) (by omega), o1]
      exact j6 t j (by omega) hj
  · rw [t5] at ht
    rw [a0] at hj1
    by_cases c : t = W 0 5
    · subst c
      rw [bn_7 W s hj2]
      exact j12.2.2 s j hs hj1 hj2
    · rw [o7 _ _ _ (by omega) (by omega) (by omega)]; exact j7 t j (by omega) hj1 hj2
  · rw [t5] at ht
    rw [a0]
    by_cases c : t = W 0 5
    · subst c; rw [b4]; exact hs
    · rw [o4 _ _ (by omega) (by omega)]; exact j8 t (by omega)
  · rw [t5] at ht
    rw [a0]
    by_cases c : t = W 0 5
    · subst c; rw [bn_8 W s hs' (by omega)] at q; exact absurd rfl q
    · rw [o7 _ _ _ (by omega) (by omega) hs'] at q
      rw [o7 8 _ _ (by omega) (by omega) hs', o4 5 _ (by omega) (by omega)]
      exact j9 t s' (by omega) hs' q
  · intro j; rw [o1, a4]; exact j12.1 j
  · intro j hj; rw [o1]; exact j12.2.1 j hj
  · rw [a0] at h1 h2; rw [o1]; exact j12.2.2 s' j h1 h2 h3
  · rw [t5] at ht
    rw [a0] at hs'
    by_cases c : t = W 0 5
    · subst c
      have := q.1.1
      rw [bn_8 W s (by omega) (by omega)] at this; exact absurd rfl this
    · refine r t s' (by omega) hs' ?_
      unfold ready at q ⊢
      rw [a0, o7 9 _ _ (by omega) (by omega) (by omega), o4 6 _ (by omega) (by omega), o4 4 _ (by omega) (by omega), o1] at q
      refine ⟨q.1, fun i hi => ?_⟩
      have z : wBegin W s 7 (5 * t + i) ≤ wBegin W s 1 (5 * s' + i) := q.2 i hi
      rw [o7 7 _ _ (by omega) (by omega) (by omega), o1] at z
      exact z
  · rw [t5] at ht
    by_cases c : t = W 0 5
    · subst c
      refine ⟨fun j hj q => ?_, fun j hj q => ?_, fun _ j hj => bn_8 W s hj (by omega)⟩
      · rw [bn_8 W s hj (by omega)] at q; exact absurd rfl q
      · rw [bn_8 W s hj (by omega)] at q; exact absurd rfl q
    · obtain ⟨p1, p2, p3⟩ := a t (by omega)
      rw [a0, o4 18 _ (by omega) (by omega), o4 5 _ (by omega) (by omega)]
      refine ⟨fun j hj q => ?_, fun j hj q => ?_, fun z j hj => ?_⟩
      · rw [o7 _ _ _ (by omega) (by omega) hj] at q ⊢; exact p1 j hj q
      · rw [o7 _ _ _ (by omega) (by omega) hj] at q; exact p2 j hj q
      · rw [o7 _ _ _ (by omega) (by omega) hj]; exact p3 z j hj
  · rw [o0 23 (by omega) (by omega)] at hj
    have e20 : ∀ q, wBegin W s 20 q = W 20 q := fun q => bn_o W s (by omega) (by omega) (by omega) (by omega)
    rw [e20, e20, e20, e20]
    obtain ⟨p1, p2, p3, p4, p5, p6, p7⟩ := l j hj
    unfold okL
    rw [a0, t5, o4 4 _ (by omega) p4, o4 5 _ (by omega) p4, o7 _ _ _ (by omega) p4 (by omega), o7 _ _ _ (by omega) p4 (by omega)]
    exact ⟨p1, p2, p3, by omega, p5, p6, p7⟩
  · rw [t5] at ht
    by_cases c : t = W 0 5
    · subst c
      have e0 : ∀ n, n ≤ 20 → ct (wr (wBegin W s) (W 0 5)) n = 0 := by
        intro n
        induction n with
        | zero => intro _; rfl
        | succ n ih =>
          intro hn
          show ct (wr (wBegin W s) (W 0 5)) n + bp (wr (wBegin W s) (W 0 5) n) = 0
          rw [ih (by omega), bp_f (fun z => z (bn_13 W s (by omega)))]
      rw [e0 20 (Nat.le_refl _)]; omega
    · rw [ct_congr (q := wr W t) 20 (fun o ho => by unfold wr; rw [bn_o W s (by omega) (by omega) (by omega) (by omega)])]
      exact iw t (by omega)
end
