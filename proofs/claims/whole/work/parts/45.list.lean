/-! The lists' own methods -/
theorem okE_of {M : Mm} {a sp n : Nat} (h : ∀ i, i < n → ∃ y, mP M a (sp + i) = some y ∧ (mK M y = 2 ∨ mK M y = 4)) : okE M a sp n = true := by
  unfold okE
  rw [List.all_eq_true]
  intro i hi
  obtain ⟨y, e, q⟩ := h i (List.mem_range.mp hi)
  rw [e]
  simpa using q
theorem i_nn {a : Nat} (h : a < 2147483648) : ¬ i32 a < i32 0 := by rw [i_lt h (by omega)]; omega
theorem shr1 (a : Nat) : a >>> 1 = a / 2 := by rw [Nat.shiftRight_eq_div_pow]
section
variable {x : Cx} {k B : Nat} {C W : Ab} {M : Mm}
/-- a memory that grew by one array of c -/
def Gr (M G : Mm) (c : Nat) : Prop := mX G = mX M + 1 ∧ mS G = mS M + c ∧ (mK G (mX M) = 11 ∧ mN G (mX M) = c) ∧ ∀ a, a < mX M → mK G a = mK M a ∧ mN G a = mN M a ∧ (∀ k, mV G a k = mV M a k) ∧ (∀ k, mP G a k = mP M a k) ∧ ∀ k, mJ G a k = mJ M a k
theorem g_copy {d n c : Nat} (hd : d < mX M ∧ d ≠ xE x) (kd : mK M d = 11) (nd : mN M d = n) (hc : n ≤ c ∧ c ≤ 1000) (hy : ∀ i, i < n → ∃ y, mP M d i = some y ∧ (mK M y = 2 ∨ mK M y = 4) ∧ y < mX M) (r1 : mX M + 1 ≤ xC x) (r2 : mS M + c ≤ xL x) : ∃ G, fJ7_copyOf_1904c x k d (i32 c) M = some (mX M, G) ∧ Gr M G c ∧ ∀ j, j < n → mP G (mX M) j = mP M d j := by
  have hl : lenE x (nO M 11 c c) d = i32 n := by
    unfold lenE
    rw [if_neg hd.2, nO_N, if_neg (by omega), nd]; rfl
  have hok : okE (nO M 11 c c) d 0 n = true := okE_of (fun i hi => by
    obtain ⟨y, e, q, hl⟩ := hy i hi
    refine ⟨y, ?_, ?_⟩
    · rw [Nat.zero_add, nO_P, if_neg (by omega)]; exact e
    · rw [nO_K, if_neg (by omega)]; exact q)
  have hmin : (if i32 c < i32 n then i32 c else i32 n) = i32 n := by
    rw [if_neg (by rw [i_lt (by omega) (by omega)]; omega)]
  have hmX := m_all
  refine ⟨sR (nO M 11 c c) (mX M) (va_cpy (mP (nO M 11 c c) d) (mP (nO M 11 c c) (mX M)) 0 0 n), ?_, ⟨rfl, rfl, ⟨?_, ?_⟩, fun a ha => ⟨?_, ?_, fun k => ?_, fun k => ?_, fun k => (nO_J M 11 c c a k).trans (if_neg (by omega))⟩⟩, fun j hj => ?_⟩
  · have e1 : fJ7_copyOf_6403c x k d (i32 c) (xG x) M = some (mX M, sR (nO M 11 c c) (mX M) (va_cpy (mP (nO M 11 c c) d) (mP (nO M 11 c c) (mX M)) 0 0 n)) := by
      unfold fJ7_copyOf_6403c
      rw [show (0 : Int32) = i32 0 from rfl, i_nat (show c < 2147483648 by omega), hl, hmin, i_nat (show n < 2147483648 by omega), i_nat (show 0 < 2147483648 by omega)]
      rw [if_pos rfl, if_pos ⟨i_nn (by omega), by omega, r1, r2⟩, if_pos (Or.inr (by rw [nO_K, if_neg (by omega)]; exact kd)), if_pos ⟨Or.inl (by rw [nO_K, if_neg (by omega)]; exact kd), by rw [nO_K, if_pos rfl], i_nn (by omega), i_nn (by omega), i_nn (by omega), by rw [nO_N, if_neg (by omega), nd]; omega, by rw [nO_N, if_pos rfl]; omega, hok⟩]
      rfl
    unfold fJ7_copyOf_1904c
    rw [if_pos (Or.inl kd), e1]
    rfl
  · rw [sR_K, nO_K, if_pos rfl]
  · rw [sR_N, nO_N, if_pos rfl]
  · rw [sR_K, nO_K, if_neg (by omega)]
  · rw [sR_N, nO_N, if_neg (by omega)]
  · rw [sR_V, nO_V, if_neg (by omega)]
  · rw [sR_P, if_neg (by omega), nO_P, if_neg (by omega)]
  · rw [sR_P, if_pos rfl]
    unfold va_cpy
    rw [if_pos ⟨by omega, by omega⟩, nO_P, if_neg (by omega), Nat.zero_add, Nat.sub_zero]
theorem g_new {n : Nat} (hn : n ≤ 400) : ∃ c, fJ8_newLength_cabcc x k (i32 n) (i32 (n + 1) - i32 n) (i32 n >>> (i32 1 &&& i32 31)) M = some (i32 c, M) ∧ n < c ∧ c ≤ n + n / 2 + 1 ∧ c ≤ 4 * (c - n) := by
  rw [i_sub (by omega), i_shr (by omega) (by omega), shr1, show n + 1 - n = 1 by omega]
  by_cases q : 1 < n / 2
  · refine ⟨n + n / 2, ?_, by omega, by omega, by omega⟩
    unfold fJ8_newLength_cabcc
    rw [show (if i32 1 < i32 (n / 2) then i32 (n / 2) else i32 1) = i32 (n / 2) from if_pos (by rw [i_lt (by omega) (by omega)]; exact q), i_add, show (0 : Int32) = i32 0 from rfl, show (2147483639 : Int32) = i32 2147483639 from rfl, if_neg (by rw [i_le (by omega) (by omega)]; omega), if_neg (by rw [i_lt (by omega) (by omega)]; omega)]
  · refine ⟨n + 1, ?_, by omega, by omega, by omega⟩
    unfold fJ8_newLength_cabcc
    rw [show (if i32 1 < i32 (n / 2) then i32 (n / 2) else i32 1) = i32 1 from if_neg (by rw [i_lt (by omega) (by omega)]; exact q), i_add, show (0 : Int32) = i32 0 from rfl, show (2147483639 : Int32) = i32 2147483639 from rfl, if_neg (by rw [i_le (by omega) (by omega)]; omega), if_neg (by rw [i_lt (by omega) (by omega)]; omega)]
theorem g_grow {hd d n : Nat} (k7 : mK M hd = 7) (p1 : mP M hd 1 = some d) (v2 : mV M hd 2 = i32 n) (hn : n ≤ 400) (hh : hd < mX M) (hd' : (d = xE x ∧ n = 0) ∨ (d ≠ xE x ∧ d < mX M ∧ mK M d = 11 ∧ mN M d = n)) (hy : ∀ i, i < n → ∃ y, mP M d i = some y ∧ (mK M y = 2 ∨ mK M y = 4) ∧ y < mX M) (r1 : mX M + 1 ≤ xC x) (r2 : mS M + 4 * (600 - n) ≤ xL x) : ∃ G c, fJx4a65c_grow_d5877 x k hd M = some (mX M, sP G hd 1 (some (mX M))) ∧ Gr M G c ∧ (n < c ∧ c ≤ 601 ∧ c ≤ 4 * (c - n) ∧ c ≤ 10 + n + n / 2) ∧ ∀ j, j < n → mP G (mX M) j = mP M d j := by
  rcases hd' with ⟨q1, q2⟩ | ⟨q1, q2, q3, q4⟩
  · subst q2
    refine ⟨nO M 11 10 10, 10, ?_, ⟨rfl, rfl, ⟨by rw [nO_K, if_pos rfl], by rw [nO_N, if_pos rfl]⟩, fun a ha => ⟨by rw [nO_K, if_neg (by omega)], by rw [nO_N, if_neg (by omega)], fun k => by rw [nO_V, if_neg (by omega)], fun k => by rw [nO_P, if_neg (by omega)], fun k => by rw [nO_J, if_neg (by omega)]⟩⟩, by omega, fun j hj => by omega⟩
    have hl : lenE x M d = i32 0 := by unfold lenE; rw [if_pos q1]; rfl
    have e1 : fJx4a65c_grow_92f84 x k hd (i32 1) M = some (mX M, sP (nO M 11 10 10) hd 1 (some (mX M))) := by
      unfold fJx4a65c_grow_92f84
      rw [if_pos k7, p1, ob1_s, if_pos (Or.inl q1), hl, if_neg (by decide), if_pos k7, ob1_s, if_pos q1, show (if (10 : Int32) < i32 1 then i32 1 else (10 : Int32)) = i32 10 by decide, i_nat (show 10 < 2147483648 by omega), if_pos ⟨by decide, by omega, r1, by omega⟩]
      show (if mK (nO M 11 10 10) hd = 7 then _ else _) = _
      rw [if_pos (by rw [nO_K, if_neg (by omega)]; exact k7)]
    unfold fJx4a65c_grow_d5877
    rw [if_pos k7, if_pos k7, v2, show i32 0 + (1 : Int32) = i32 1 from rfl, e1]
    rfl
  · obtain ⟨c, ec, c1, c2, c3⟩ := g_new (x := x) (k := k) (M := M) hn
    have hc600 : c ≤ 601 := by omega
    obtain ⟨G, eG, hG, pG⟩ := g_copy (x := x) (k := k) (c := c) ⟨q2, q1⟩ q3 q4 ⟨by omega, by omega⟩ hy r1 (by omega)
    refine ⟨G, c, ?_, hG, by omega, pG⟩
    have hl : lenE x M d = i32 n := by unfold lenE; rw [if_neg q1, q4]; rfl
    have e1 : fJx4a65c_grow_92f84_20 x k hd (i32 (n + 1)) (i32 n) M = some (mX M, sP G hd 1 (some (mX M))) := by
      unfold fJx4a65c_grow_92f84_20
      rw [show (1 : Int32) = i32 1 from rfl, show (31 : Int32) = i32 31 from rfl, ec]
      show (if mK M hd = 7 then _ else _) = _
      rw [if_pos k7, p1, ob1_s, eG]
      show (if mK G hd = 7 then _ else _) = _
      rw [if_pos (by rw [(hG.2.2.2 hd hh).1]; exact k7)]
    have e2 : fJx4a65c_grow_92f84 x k hd (i32 (n + 1)) M = some (mX M, sP G hd 1 (some (mX M))) := by
      unfold fJx4a65c_grow_92f84
      rw [if_pos k7, p1, ob1_s, if_pos (Or.inr q3), hl]
      by_cases z : n = 0
      · subst z
        rw [if_neg (by decide), if_pos k7, ob1_s, if_neg q1, e1]
      · rw [if_pos (by rw [show (0 : Int32) = i32 0 from rfl, i_lt (by omega) (by omega)]; omega), e1]
    unfold fJx4a65c_grow_d5877
    rw [if_pos k7, if_pos k7, v2, show i32 n + (1 : Int32) = i32 (n + 1) from i_add n 1, e2]
    rfl
/-- what an addition to the letters leaves -/
def Ad (C C' : Ab) (g : Nat → Nat) : Prop := (∀ a j, a ≠ 60 → a ≠ 71 → a ≠ 72 → a ≠ 73 → a ≠ 2000 + C 60 1 → C' a j = C a j) ∧ (C' 60 0 = C 60 0 ∧ C' 60 1 = C 60 1 + 1) ∧ (∀ j, C' (2000 + C 60 1) j = g j) ∧ (C' 72 1 = C 72 1 ∧ C' 72 3 ≤ 600) ∧ C' 73 0 ≤ C 73 0 + 1 ∧ C' 73 1 + 4 * (600 - C' 72 3) ≤ C 73 1 + 4 * (600 - C 72 3)
theorem c_add1 (h : St x B C W M) (hn : C 60 1 < 300) {e : Nat} {g : Nat → Nat} (he : B + 48 ≤ e ∧ e < mX M) (ke : mK M e = 2) (hg : ∀ k, mV M e k = i32 (g k)) (r1 : C 73 0 + 1 ≤ xC x) (r2 : C 73 1 + 4 * (600 - C 72 3) ≤ xL x) : ∃ C' M', fJx4a65c_add_9ea2d x k (B + 23) e M = some (i32 1, M') ∧ St x B C' W M' ∧ Ad C C' g := by
  have h0 : St x B C W (sV M (B + 23) 0 (mV M (B + 23) 0 + 1)) := st_smod h (Or.inr rfl) _
  have ke' : mK (sV M (B + 23) 0 (mV M (B + 23) 0 + 1)) e = 2 := ke
  have hg' : ∀ k, mV (sV M (B + 23) 0 (mV M (B + 23) 0 + 1)) e k = i32 (g k) := fun k => by rw [sV_Vn _ _ _ _ _ (by omega)]; exact hg k
  have he' : B + 48 ≤ e ∧ e < mX (sV M (B + 23) 0 (mV M (B + 23) 0 + 1)) := he
  have k7 : mK M (B + 23) = 7 := kL0 h
  have pre : fJx4a65c_add_9ea2d x k (B + 23) e M = ob2 (fJx4a65c_add_72be8 x k (B + 23) e (C 72 2) (i32 (C 60 1)) (sV M (B + 23) 0 (mV M (B + 23) 0 + 1))) (fun _ M8 => some (i32 1, M8)) := by
    have p1 := h0.2.2.2.2.1.1
    have p2 := h0.2.2.2.2.1.2.1
    unfold fJx4a65c_add_9ea2d
    rw [if_pos k7, if_pos k7, if_pos (show mK (sV M (B + 23) 0 (mV M (B + 23) 0 + 1)) (B + 23) = 7 from k7), p1, ob1_s, if_pos (show mK (sV M (B + 23) 0 (mV M (B + 23) 0 + 1)) (B + 23) = 7 from k7), if_pos (show mK (sV M (B + 23) 0 (mV M (B + 23) 0 + 1)) (B + 23) = 7 from k7), p2]
    rfl
  rw [pre]
  clear pre
  generalize sV M (B + 23) 0 (mV M (B + 23) 0 + 1) = M1 at *
  clear h hg ke he
  have k7 : mK M1 (B + 23) = 7 := kL0 h0
  have hX := h0.1
  obtain ⟨m1, m2, m3, m4, m5⟩ := h0.2.2.2.2.1
  have hd' : C 72 2 = xE x ∨ mK M1 (C 72 2) = 11 := by
    rcases m4 with q | q
    · exact Or.inl q.1
    · exact Or.inr q.2.2.2.1
  have hlen : lenE x M1 (C 72 2) = i32 (C 72 3) := by
    unfold lenE
    rcases m4 with q | q
    · rw [if_pos q.1, q.2]; rfl
    · rw [if_neg q.1, q.2.2.2.2]; rfl
  by_cases full : C 60 1 = C 72 3
  · obtain ⟨G, c, eG, hG, hc, pG⟩ := g_grow (x := x) (k := k) (M := M1) (hd := B + 23) (d := C 72 2) (n := C 60 1) k7 m1 m2 (by omega) (by omega) (by
      rcases m4 with q | q
      · exact Or.inl ⟨q.1, by omega⟩
      · exact Or.inr ⟨q.1, q.2.2.1, q.2.2.2.1, by rw [q.2.2.2.2]; omega⟩) (fun i hi => by
      obtain ⟨z1, z2, z3, z4⟩ := m5 i hi
      exact ⟨_, z1, Or.inl z2, z4⟩) (by omega) (by omega)
    have hxG : mX G = mX M1 + 1 := hG.1
    have h1 : St x B _ W G := st_ext h0 (by omega) hG.2.2.2
    have h2 := st_ptr1 h1 (a := mX M1) (c := c) (by omega) hG.2.2.1.1 hG.2.2.1.2 (by simp (disch := omega) only [U_r]; omega) (fun j hj => by
      simp (disch := omega) only [U_r] at hj ⊢
      rw [pG j hj]; exact (m5 j hj).1) (by
      simp (disch := omega) only [U_r]
      have q := h0.2.2.2.1.2.2.2.1
      rcases q with q | q <;> omega)
    have h3 := st_put1 h2 (e := e) (g := g) (by simp (disch := omega) only [U_r, U_s]; omega) (by show _ ∧ e < mX G; omega) (by show mK G e = 2; rw [(hG.2.2.2 e he'.2).1]; exact ke') (fun k => by show mV G e k = _; rw [(hG.2.2.2 e he'.2).2.2.1]; exact hg' k)
    refine ⟨_, _, ?_, h3, ?_⟩
    · unfold fJx4a65c_add_72be8
      rw [if_pos hd', hlen, if_pos (by rw [full]), if_pos k7, eG]
      unfold fJx4a65c_add_72be8_11
      have eK : mK (sP G (B + 23) 1 (some (mX M1))) = mK G := rfl
      have eN : mN (sP G (B + 23) 1 (some (mX M1))) = mN G := rfl
      simp (disch := omega) only [U_r, U_s, U_k]
      show ob2 (if mK G (mX M1) = 11 ∧ (mK G e = 2 ∨ mK G e = 4) ∧ ¬ (i32 (C 60 1) < i32 0 ∨ mN G (mX M1) ≤ (i32 (C 60 1)).toNatClampNeg) then _ else _) _ = _
      rw [if_pos ⟨hG.2.2.1.1, Or.inl (by rw [(hG.2.2.2 e he'.2).1]; exact ke'), by rw [hG.2.2.1.2, i_ix (by omega) (by omega)]; exact not_false⟩, i_nat (by omega), show (1 : Int32) = i32 1 from rfl, i_add]
      show ob2 (if mK G (B + 23) = 7 then _ else _) _ = _
      rw [if_pos (show mK G (B + 23) = 7 by rw [(hG.2.2.2 (B + 23) (by omega)).1]; exact k7)]
      rfl
    · have hs := hG.2.1
      refine ⟨fun a j a1 a2 a3 a4 a5 => ?_, ⟨?_, ?_⟩, fun j => ?_, ⟨?_, ?_⟩, ?_, ?_⟩
      · simp (disch := omega) only [U_r, UR_r] at a5 ⊢
      · simp (disch := omega) only [U_r, UR_r, U_k]
      · simp (disch := omega) only [U_r, UR_r, U_s]
      · simp (disch := omega) only [U_r, UR_r, U_s, UR_s]
      · simp (disch := omega) only [U_r, UR_r, U_s, U_k]
      · simp (disch := omega) only [U_r, UR_r, U_s, U_k]; omega
      · simp (disch := omega) only [U_r, UR_r, U_s, U_k]; omega
      · simp (disch := omega) only [U_r, UR_r, U_s, U_k]; omega
  · have hlt : C 60 1 < C 72 3 := by omega
    have h3 := st_put1 h0 (e := e) (g := g) hlt he' ke' hg'
    obtain ⟨d1, d2, d3, d4, d5⟩ : C 72 2 ≠ xE x ∧ B + 48 ≤ C 72 2 ∧ C 72 2 < mX M1 ∧ mK M1 (C 72 2) = 11 ∧ mN M1 (C 72 2) = C 72 3 := by
      rcases m4 with q | q
      · omega
      · exact q
    refine ⟨_, _, ?_, h3, ?_⟩
    · unfold fJx4a65c_add_72be8
      rw [if_pos hd', hlen, if_neg (by rw [i_eq (by omega) (by omega)]; exact full)]
      unfold fJx4a65c_add_72be8_11
      rw [if_pos ⟨d4, Or.inl ke', by rw [d5, show (0 : Int32) = i32 0 from rfl, i_ix (by omega) (by omega)]; exact not_false⟩, i_nat (by omega), show (1 : Int32) = i32 1 from rfl, i_add, if_pos (show mK (sP M1 (C 72 2) (C 60 1) (some e)) (B + 23) = 7 from k7)]
      rfl
    · refine ⟨fun a j a1 a2 a3 a4 a5 => ?_, ⟨?_, ?_⟩, fun j => ?_, ⟨?_, ?_⟩, ?_, ?_⟩
      · simp (disch := omega) only [U_r, UR_r] at a5 ⊢
      · simp (disch := omega) only [U_r, UR_r, U_k]
      · simp (disch := omega) only [U_r, UR_r, U_s]
      · simp (disch := omega) only [U_r, UR_r, U_s, UR_s]
      · simp (disch := omega) only [U_r, UR_r, U_s, U_k]
      · simp (disch := omega) only [U_r, UR_r, U_s, U_k]; omega
      · simp (disch := omega) only [U_r, UR_r, U_s, U_k]; omega
      · simp (disch := omega) only [U_r, UR_r, U_s, U_k]; omega
end
