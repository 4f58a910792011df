/-! The memory grows: what lies below stays; lists -/
theorem nO_K (M : Mm) (κ n z a : Nat) : mK (nO M κ n z) a = if a = mX M then κ else mK M a := by
  by_cases c : a = mX M
  · simp [nO, mK, va_up, c]
  · simp [nO, mK, va_up, c]
theorem nO_N (M : Mm) (κ n z a : Nat) : mN (nO M κ n z) a = if a = mX M then n else mN M a := by
  by_cases c : a = mX M
  · simp [nO, mN, va_up, c]
  · simp [nO, mN, va_up, c]
theorem nO_V (M : Mm) (κ n z a k : Nat) : mV (nO M κ n z) a k = if a = mX M then i32 0 else mV M a k := by
  by_cases c : a = mX M
  · simp [nO, mV, va_up, c]; rfl
  · simp [nO, mV, va_up, c]
theorem nO_P (M : Mm) (κ n z a k : Nat) : mP (nO M κ n z) a k = if a = mX M then none else mP M a k := by
  by_cases c : a = mX M
  · simp [nO, mP, va_up, c]
  · simp [nO, mP, va_up, c]
theorem nO_J (M : Mm) (κ n z a k : Nat) : mJ (nO M κ n z) a k = if a = mX M then 0 else mJ M a k := by
  by_cases c : a = mX M
  · simp [nO, mJ, va_up, c]
  · simp [nO, mJ, va_up, c]
theorem nO_X (M : Mm) (κ n z : Nat) : mX (nO M κ n z) = mX M + 1 := rfl
theorem nO_S (M : Mm) (κ n z : Nat) : mS (nO M κ n z) = mS M + z := rfl
theorem sP_K (M : Mm) (a k : Nat) (v : Option Nat) : mK (sP M a k v) = mK M := rfl
theorem sP_V (M : Mm) (a k : Nat) (v : Option Nat) : mV (sP M a k v) = mV M := rfl
theorem sP_N (M : Mm) (a k : Nat) (v : Option Nat) : mN (sP M a k v) = mN M := rfl
theorem sP_X (M : Mm) (a k : Nat) (v : Option Nat) : mX (sP M a k v) = mX M := rfl
theorem sP_S (M : Mm) (a k : Nat) (v : Option Nat) : mS (sP M a k v) = mS M := rfl
theorem sP_P (M : Mm) (a k : Nat) (v : Option Nat) (b j : Nat) : mP (sP M a k v) b j = if b = a ∧ j = k then v else mP M b j := by
  by_cases h : b = a
  · subst h
    by_cases hj : j = k
    · subst hj; simp [sP, mP, va_up]
    · simp [sP, mP, va_up, hj]
  · simp [sP, mP, va_up, h]
theorem sR_K (M : Mm) (a : Nat) (r : Nat → Option Nat) : mK (sR M a r) = mK M := rfl
theorem sR_V (M : Mm) (a : Nat) (r : Nat → Option Nat) : mV (sR M a r) = mV M := rfl
theorem sR_N (M : Mm) (a : Nat) (r : Nat → Option Nat) : mN (sR M a r) = mN M := rfl
theorem sR_X (M : Mm) (a : Nat) (r : Nat → Option Nat) : mX (sR M a r) = mX M := rfl
theorem sR_S (M : Mm) (a : Nat) (r : Nat → Option Nat) : mS (sR M a r) = mS M := rfl
theorem sR_P (M : Mm) (a : Nat) (r : Nat → Option Nat) (b j : Nat) : mP (sR M a r) b j = if b = a then r j else mP M b j := by
  by_cases h : b = a
  · subst h; simp [sR, mP, va_up]
  · simp [sR, mP, va_up, h]
theorem m_all : (∀ M κ n z a, mK (nO M κ n z) a = if a = mX M then κ else mK M a) ∧ (∀ M κ n z a, mN (nO M κ n z) a = if a = mX M then n else mN M a) ∧ (∀ M κ n z a k, mV (nO M κ n z) a k = if a = mX M then i32 0 else mV M a k) ∧ (∀ M κ n z a k, mP (nO M κ n z) a k = if a = mX M then none else mP M a k) ∧ (∀ M κ n z, mX (nO M κ n z) = mX M + 1) ∧ (∀ M κ n z, mS (nO M κ n z) = mS M + z) ∧ (∀ M a k v, mK (sP M a k v) = mK M) ∧ (∀ M a k v, mV (sP M a k v) = mV M) ∧ (∀ M a k v, mN (sP M a k v) = mN M) ∧ (∀ M a k v, mX (sP M a k v) = mX M) ∧ (∀ M a k v, mS (sP M a k v) = mS M) ∧ (∀ M a k v b j, mP (sP M a k v) b j = if b = a ∧ j = k then v else mP M b j) ∧ (∀ M a r, mK (sR M a r) = mK M) ∧ (∀ M a r, mV (sR M a r) = mV M) ∧ (∀ M a r, mN (sR M a r) = mN M) ∧ (∀ M a r, mX (sR M a r) = mX M) ∧ (∀ M a r, mS (sR M a r) = mS M) ∧ (∀ M a r b j, mP (sR M a r) b j = if b = a then r j else mP M b j) :=
  ⟨nO_K, nO_N, nO_V, nO_P, nO_X, nO_S, sP_K, sP_V, sP_N, sP_X, sP_S, sP_P, sR_K, sR_V, sR_N, sR_X, sR_S, sR_P⟩
theorem spt_i {i k : Nat} (h : spt i k ≠ 0) : i < 22 ∨ i = 25 := by
  revert h
  unfold spt
  split <;> intro h <;> first | omega | exact absurd rfl h
/-- a row written anew -/
def UR (A : Ab) (a : Nat) (g : Nat → Nat) : Ab := fun b j => if b = a then g j else A b j
theorem UR_s (A : Ab) (a : Nat) (g : Nat → Nat) (j : Nat) : UR A a g a j = g j := by simp [UR]
theorem UR_r (A : Ab) {a b : Nat} (h : b ≠ a) (g : Nat → Nat) (j : Nat) : UR A a g b j = A b j := by simp [UR, h]
section
variable {x : Cx} {k B : Nat} {C W : Ab} {M : Mm}
theorem st_ext (h : St x B C W M) {M' : Mm} (hx : mX M ≤ mX M') (ag : ∀ a, a < mX M → mK M' a = mK M a ∧ mN M' a = mN M a ∧ (∀ k, mV M' a k = mV M a k) ∧ (∀ k, mP M' a k = mP M a k) ∧ ∀ k, mJ M' a k = mJ M a k) : St x B (U (U C 73 0 (mX M')) 73 1 (mS M')) W M' := by
  obtain ⟨h1, h2, h3, ⟨l1, l2, l3⟩, ⟨m1, m2, m3⟩, h6, v1, v2, v3, v4, v5⟩ := h
  have e60 : U (U C 73 0 (mX M')) 73 1 (mS M') 60 = C 60 := by funext j; rw [U_r _ (by omega), U_r _ (by omega)]
  have e70 : U (U C 73 0 (mX M')) 73 1 (mS M') 70 = C 70 := by funext j; rw [U_r _ (by omega), U_r _ (by omega)]
  have e71 : U (U C 73 0 (mX M')) 73 1 (mS M') 71 = C 71 := by funext j; rw [U_r _ (by omega), U_r _ (by omega)]
  have e72 : U (U C 73 0 (mX M')) 73 1 (mS M') 72 = C 72 := by funext j; rw [U_r _ (by omega), U_r _ (by omega)]
  have e0 : U (U C 73 0 (mX M')) 73 1 (mS M') 73 0 = mX M' := by rw [U_k _ _ _ (by omega), U_s]
  have e1 : U (U C 73 0 (mX M')) 73 1 (mS M') 73 1 = mS M' := U_s _ _ _ _
  have aK : ∀ a, a < mX M → mK M' a = mK M a := fun a ha => (ag a ha).1
  have aN : ∀ a, a < mX M → mN M' a = mN M a := fun a ha => (ag a ha).2.1
  have aV : ∀ a k, a < mX M → mV M' a k = mV M a k := fun a k ha => (ag a ha).2.2.1 k
  have aP : ∀ a k, a < mX M → mP M' a k = mP M a k := fun a k ha => (ag a ha).2.2.2.1 k
  unfold St StV StT
  rw [e60, e70, e71, e72, e0, e1]
  have hd : ∀ d cap, ((d = xE x ∧ cap = 0) ∨ (d ≠ xE x ∧ B + 48 ≤ d ∧ d < mX M ∧ mK M d = 11 ∧ mN M d = cap)) → d < mX M := by
    intro d cap q
    rcases q with q | q
    · omega
    · exact q.2.2.1
  refine ⟨⟨h1.1, by omega, rfl, rfl⟩, ⟨fun i hi => ?_, fun i hi hl => ?_, fun i k hl => ?_⟩, ⟨h3.1, fun i hi => ?_, h3.2.2⟩, ⟨?_, ?_, l3.1, ?_, fun j hj => ?_⟩, ⟨?_, ?_, m3.1, ?_, fun j hj => ?_⟩, h6, ?_, ?_, ?_, ?_, by rw [U_r _ (by omega), U_r _ (by omega), (ag _ (by omega)).2.2.2.2]; exact v5⟩
  · rw [aK _ (by omega)]; exact h2.1 i hi
  · rw [aN _ (by omega)]; exact h2.2.1 i hi hl
  · have := spt_i hl
    rw [aP _ _ (by omega)]; exact h2.2.2 i k hl
  · obtain ⟨⟨q1, q2⟩, q3⟩ := h3.2.1 i hi
    refine ⟨⟨q1, by omega⟩, ?_⟩
    rw [aK _ (by omega), aK _ (by omega), aK _ (by omega), aK _ (by omega), aK _ (by omega), aN _ (by omega), aN _ (by omega), aN _ (by omega), aN _ (by omega), aP _ _ (by omega), aP _ _ (by omega), aP _ _ (by omega), aP _ _ (by omega)]
    exact q3
  · rw [aP _ _ (by omega)]; exact l1
  · rw [aV _ _ (by omega)]; exact l2
  · have := hd _ _ l3.2.1
    rcases l3.2.1 with q | ⟨q1, q2, q3, q4⟩
    · exact Or.inl q
    · refine Or.inr ⟨q1, q2, by omega, ?_⟩
      rw [aK _ (by omega), aN _ (by omega)]; exact q4
  · obtain ⟨q1, q2, q3, q4⟩ := l3.2.2 j hj
    rw [aP _ _ (hd _ _ l3.2.1), aK _ q4]
    exact ⟨q1, q2, q3, by omega⟩
  · rw [aP _ _ (by omega)]; exact m1
  · rw [aV _ _ (by omega)]; exact m2
  · have := hd _ _ m3.2.1
    rcases m3.2.1 with q | ⟨q1, q2, q3, q4⟩
    · exact Or.inl q
    · refine Or.inr ⟨q1, q2, by omega, ?_⟩
      rw [aK _ (by omega), aN _ (by omega)]; exact q4
  · obtain ⟨q1, q2, q3, q4⟩ := m3.2.2 j hj
    rw [aP _ _ (hd _ _ m3.2.1), aK _ q4]
    exact ⟨q1, q2, q3, by omega⟩
  · intro a k' ha; rw [U_r _ (by omega), U_r _ (by omega), aV _ _ (by omega)]; exact v1 a k' ha
  · intro j d k' hj hd'
    have := (h3.2.1 j hj).1.2
    rw [U_r _ (by omega), U_r _ (by omega), aV _ _ (by omega)]; exact v2 j d k' hj hd'
  · intro j k' hj
    rw [U_r _ (by omega), U_r _ (by omega), aV _ _ (m3.2.2 j hj).2.2.2]; exact v3 j k' hj
  · intro j k' hj
    rw [aV _ _ (by omega)]; exact v4 j k' hj
/-- a list's array is another one -/
theorem st_ptr1 (h : St x B C W M) {a c : Nat} (ha : B + 48 ≤ a ∧ a < mX M) (ka : mK M a = 11) (na : mN M a = c) (hc : C 60 1 ≤ c ∧ c ≤ 600) (hp : ∀ j, j < C 60 1 → mP M a j = some (C 71 j)) (hne : a ≠ C 72 0) : St x B (U (U C 72 2 a) 72 3 c) W (sP M (B + 23) 1 (some a)) := by
  obtain ⟨h1, h2, h3, ⟨l1, l2, l3⟩, ⟨m1, m2, m3⟩, h6, v1, v2, v3, v4, v5⟩ := h
  have e60 : U (U C 72 2 a) 72 3 c 60 = C 60 := by funext j; rw [U_r _ (by omega), U_r _ (by omega)]
  have e70 : U (U C 72 2 a) 72 3 c 70 = C 70 := by funext j; rw [U_r _ (by omega), U_r _ (by omega)]
  have e71 : U (U C 72 2 a) 72 3 c 71 = C 71 := by funext j; rw [U_r _ (by omega), U_r _ (by omega)]
  have e73 : U (U C 72 2 a) 72 3 c 73 = C 73 := by funext j; rw [U_r _ (by omega), U_r _ (by omega)]
  have e720 : U (U C 72 2 a) 72 3 c 72 0 = C 72 0 := by rw [U_k _ _ _ (by omega), U_k _ _ _ (by omega)]
  have e721 : U (U C 72 2 a) 72 3 c 72 1 = C 72 1 := by rw [U_k _ _ _ (by omega), U_k _ _ _ (by omega)]
  have e722 : U (U C 72 2 a) 72 3 c 72 2 = a := by rw [U_k _ _ _ (by omega), U_s]
  have e723 : U (U C 72 2 a) 72 3 c 72 3 = c := U_s _ _ _ _
  have aP : ∀ b k, b ≠ B + 23 → mP (sP M (B + 23) 1 (some a)) b k = mP M b k := fun b k hb => by rw [sP_P, if_neg (fun z => hb z.1)]
  unfold St StV StT
  rw [e60, e70, e71, e73, e720, e721, e722, e723]
  have h0 : C 72 0 ≠ B + 23 := by
    rcases l3.2.1 with q | q <;> omega
  refine ⟨h1, ⟨h2.1, h2.2.1, fun i k hl => ?_⟩, ⟨h3.1, fun i hi => ?_, h3.2.2⟩, ⟨?_, l2, l3.1, l3.2.1, fun j hj => ?_⟩, ⟨?_, m2, ⟨hc.1, hc.2⟩, Or.inr ⟨by omega, ha.1, ha.2, ka, na⟩, fun j hj => ?_⟩, fun z => absurd z.symm hne, ?_, ?_, ?_, v4, by rw [U_r _ (by omega), U_r _ (by omega)]; exact v5⟩
  · have := spt_i hl
    rw [aP _ _ (by omega)]; exact h2.2.2 i k hl
  · obtain ⟨⟨q1, q2⟩, q3⟩ := h3.2.1 i hi
    refine ⟨⟨q1, q2⟩, ?_⟩
    rw [aP _ _ (by omega), aP _ _ (by omega), aP _ _ (by omega), aP _ _ (by omega)]
    exact q3
  · rw [aP _ _ (by omega)]; exact l1
  · rw [aP _ _ h0]; exact l3.2.2 j hj
  · rw [sP_P, if_pos ⟨rfl, rfl⟩]
  · rw [aP _ _ (by omega)]
    exact ⟨hp j hj, (m3.2.2 j hj).2⟩
  · intro b k' hb; rw [U_r _ (by omega), U_r _ (by omega)]; exact v1 b k' hb
  · intro j d k' hj hd'
    rw [U_r _ (by omega), U_r _ (by omega)]; exact v2 j d k' hj hd'
  · intro j k' hj
    rw [U_r _ (by omega), U_r _ (by omega)]; exact v3 j k' hj
theorem st_ptr0 (h : St x B C W M) {a c : Nat} (ha : B + 48 ≤ a ∧ a < mX M) (ka : mK M a = 11) (na : mN M a = c) (hc : C 60 0 ≤ c ∧ c ≤ 600) (hp : ∀ j, j < C 60 0 → mP M a j = some (C 70 j)) (hne : a ≠ C 72 2) : St x B (U (U C 72 0 a) 72 1 c) W (sP M (B + 22) 1 (some a)) := by
  obtain ⟨h1, h2, h3, ⟨l1, l2, l3⟩, ⟨m1, m2, m3⟩, h6, v1, v2, v3, v4, v5⟩ := h
  have e60 : U (U C 72 0 a) 72 1 c 60 = C 60 := by funext j; rw [U_r _ (by omega), U_r _ (by omega)]
  have e70 : U (U C 72 0 a) 72 1 c 70 = C 70 := by funext j; rw [U_r _ (by omega), U_r _ (by omega)]
  have e71 : U (U C 72 0 a) 72 1 c 71 = C 71 := by funext j; rw [U_r _ (by omega), U_r _ (by omega)]
  have e73 : U (U C 72 0 a) 72 1 c 73 = C 73 := by funext j; rw [U_r _ (by omega), U_r _ (by omega)]
  have e722 : U (U C 72 0 a) 72 1 c 72 2 = C 72 2 := by rw [U_k _ _ _ (by omega), U_k _ _ _ (by omega)]
  have e723 : U (U C 72 0 a) 72 1 c 72 3 = C 72 3 := by rw [U_k _ _ _ (by omega), U_k _ _ _ (by omega)]
  have e720 : U (U C 72 0 a) 72 1 c 72 0 = a := by rw [U_k _ _ _ (by omega), U_s]
  have e721 : U (U C 72 0 a) 72 1 c 72 1 = c := U_s _ _ _ _
  have aP : ∀ b k, b ≠ B + 22 → mP (sP M (B + 22) 1 (some a)) b k = mP M b k := fun b k hb => by rw [sP_P, if_neg (fun z => hb z.1)]
  unfold St StV StT
  rw [e60, e70, e71, e73, e720, e721, e722, e723]
  have h0 : C 72 2 ≠ B + 22 := by
    rcases m3.2.1 with q | q <;> omega
  refine ⟨h1, ⟨h2.1, h2.2.1, fun i k hl => ?_⟩, ⟨h3.1, fun i hi => ?_, h3.2.2⟩, ⟨?_, l2, ⟨hc.1, hc.2⟩, Or.inr ⟨by omega, ha.1, ha.2, ka, na⟩, fun j hj => ?_⟩, ⟨?_, m2, m3.1, m3.2.1, fun j hj => ?_⟩, fun z => absurd z hne, ?_, ?_, ?_, v4, by rw [U_r _ (by omega), U_r _ (by omega)]; exact v5⟩
  · have := spt_i hl
    rw [aP _ _ (by omega)]; exact h2.2.2 i k hl
  · obtain ⟨⟨q1, q2⟩, q3⟩ := h3.2.1 i hi
    refine ⟨⟨q1, q2⟩, ?_⟩
    rw [aP _ _ (by omega), aP _ _ (by omega), aP _ _ (by omega), aP _ _ (by omega)]
    exact q3
  · rw [sP_P, if_pos ⟨rfl, rfl⟩]
  · rw [aP _ _ (by omega)]
    exact ⟨hp j hj, (l3.2.2 j hj).2⟩
  · rw [aP _ _ (by omega)]; exact m1
  · rw [aP _ _ h0]; exact m3.2.2 j hj
  · intro b k' hb; rw [U_r _ (by omega), U_r _ (by omega)]; exact v1 b k' hb
  · intro j d k' hj hd'
    rw [U_r _ (by omega), U_r _ (by omega)]; exact v2 j d k' hj hd'
  · intro j k' hj
    rw [U_r _ (by omega), U_r _ (by omega)]; exact v3 j k' hj
/-- one more letter in its list -/
theorem st_put1 (h : St x B C W M) {e : Nat} {g : Nat → Nat} (hr : C 60 1 < C 72 3) (he : B + 48 ≤ e ∧ e < mX M) (ke : mK M e = 2) (hg : ∀ k, mV M e k = i32 (g k)) : St x B (UR (U (U C 60 1 (C 60 1 + 1)) 71 (C 60 1) e) (2000 + C 60 1) g) W (sV (sP M (C 72 2) (C 60 1) (some e)) (B + 23) 2 (i32 (C 60 1 + 1))) := by
  obtain ⟨h1, h2, h3, ⟨l1, l2, l3⟩, ⟨m1, m2, m3⟩, h6, v1, v2, v3, v4, v5⟩ := h
  obtain ⟨d1, d2, d3, d4, d5⟩ : C 72 2 ≠ xE x ∧ B + 48 ≤ C 72 2 ∧ C 72 2 < mX M ∧ mK M (C 72 2) = 11 ∧ mN M (C 72 2) = C 72 3 := by
    rcases m3.2.1 with q | q
    · omega
    · exact q
  have hcap := m3.1
  generalize hn : C 60 1 = n at *
  have e600 : UR (U (U C 60 1 (n + 1)) 71 n e) (2000 + n) g 60 0 = C 60 0 := by rw [UR_r _ (by omega), U_r _ (by omega), U_k _ _ _ (by omega)]
  have e601 : UR (U (U C 60 1 (n + 1)) 71 n e) (2000 + n) g 60 1 = n + 1 := by rw [UR_r _ (by omega), U_r _ (by omega), U_s]
  have e70 : UR (U (U C 60 1 (n + 1)) 71 n e) (2000 + n) g 70 = C 70 := by funext j; rw [UR_r _ (by omega), U_r _ (by omega), U_r _ (by omega)]
  have e72 : UR (U (U C 60 1 (n + 1)) 71 n e) (2000 + n) g 72 = C 72 := by funext j; rw [UR_r _ (by omega), U_r _ (by omega), U_r _ (by omega)]
  have e73 : UR (U (U C 60 1 (n + 1)) 71 n e) (2000 + n) g 73 = C 73 := by funext j; rw [UR_r _ (by omega), U_r _ (by omega), U_r _ (by omega)]
  have e71 : ∀ j, UR (U (U C 60 1 (n + 1)) 71 n e) (2000 + n) g 71 j = if j = n then e else C 71 j := by
    intro j
    rw [UR_r _ (by omega)]
    by_cases c : j = n
    · rw [if_pos c, c, U_s]
    · rw [if_neg c, U_k _ _ _ c, U_r _ (by omega)]
  have eo : ∀ a j, a ≠ 60 → a ≠ 71 → a ≠ 2000 + n → UR (U (U C 60 1 (n + 1)) 71 n e) (2000 + n) g a j = C a j := by
    intro a j q1 q2 q3
    rw [UR_r _ q3, U_r _ q2, U_r _ q1]
  unfold St StV StT
  rw [e600, e601, e70, e72, e73]
  have aP : ∀ b k, b ≠ C 72 2 → mP (sV (sP M (C 72 2) n (some e)) (B + 23) 2 (i32 (n + 1))) b k = mP M b k := fun b k hb => by
    rw [sV_P, sP_P, if_neg (fun z => hb z.1)]
  have aV : ∀ b k, b ≠ B + 23 → mV (sV (sP M (C 72 2) n (some e)) (B + 23) 2 (i32 (n + 1))) b k = mV M b k := fun b k hb => by
    rw [sV_V, if_neg (fun z => hb z.1)]; rfl
  refine ⟨h1, ⟨h2.1, h2.2.1, fun i k hl => ?_⟩, ⟨h3.1, fun i hi => ?_, h3.2.2⟩, ⟨?_, ?_, l3.1, l3.2.1, fun j hj => ?_⟩, ⟨?_, ?_, ⟨by omega, hcap.2⟩, m3.2.1, fun j hj => ?_⟩, h6, ?_, ?_, ?_, ?_, by rw [eo _ _ (by omega) (by omega) (by omega)]; exact v5⟩
  · have := spt_i hl
    rw [aP _ _ (by omega)]; exact h2.2.2 i k hl
  · obtain ⟨⟨q1, q2⟩, q3, q4⟩ := h3.2.1 i hi
    refine ⟨⟨q1, q2⟩, q3, ?_⟩
    have : C 70 i ≠ C 72 2 := fun z => by rw [z] at q3; omega
    rw [aP _ _ this, aP _ _ this, aP _ _ this, aP _ _ this]
    exact q4
  · rw [aP _ _ (by omega)]; exact l1
  · rw [aV _ _ (by omega)]; exact l2
  · have q : C 72 0 ≠ C 72 2 := fun z => d1 (by rw [← z]; exact h6 z)
    rw [aP _ _ q]; exact l3.2.2 j hj
  · rw [aP _ _ (by omega)]; exact m1
  · rw [sV_V, if_pos ⟨rfl, rfl⟩]
  · rw [e71]
    by_cases c : j = n
    · rw [if_pos c, sV_P, sP_P, if_pos ⟨rfl, c⟩]
      exact ⟨rfl, ke, he.1, he.2⟩
    · rw [if_neg c, sV_P, sP_P, if_neg (fun z => c z.2)]
      exact m3.2.2 j (by omega)
  · intro b k' hb; rw [eo _ _ (by omega) (by omega) (by omega), aV _ _ (by omega)]; exact v1 b k' hb
  · intro j d k' hj hd'
    have hh := h3.1
    have q := (h3.2.1 j hj).1.1
    rw [eo _ _ (by omega) (by omega) (by omega), aV _ _ (by omega)]; exact v2 j d k' hj hd'
  · intro j k' hj
    rw [e71]
    by_cases c : j = n
    · rw [if_pos c, c, UR_s, aV _ _ (by omega)]; exact hg k'
    · have q := (m3.2.2 j (by omega)).2.2.1
      rw [if_neg c, eo _ _ (by omega) (by omega) (by omega), aV _ _ (by omega)]; exact v3 j k' (by omega)
  · intro j k' hj
    rw [aV _ _ (by omega)]; exact v4 j k' hj
end
