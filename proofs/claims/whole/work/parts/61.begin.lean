/-! Class and reference answer alike: begin -/
/-- the numbers with one more transaction, all nought -/
def cNew (C : Ab) (e : Nat) : Ab := fun a j => if a = 60 ∧ j = 0 then C 60 0 + 1 else if a = 70 ∧ j = C 60 0 then e else if 100 + 5 * C 60 0 ≤ a ∧ a ≤ 104 + 5 * C 60 0 then 0 else C a j
theorem cN60 (C : Ab) (e : Nat) : cNew C e 60 0 = C 60 0 + 1 := if_pos ⟨rfl, rfl⟩
theorem cN70 (C : Ab) (e : Nat) : cNew C e 70 (C 60 0) = e := by unfold cNew; rw [if_neg (by omega), if_pos ⟨rfl, rfl⟩]
theorem cNt (C : Ab) (e : Nat) {a j : Nat} (h : 100 + 5 * C 60 0 ≤ a ∧ a ≤ 104 + 5 * C 60 0) : cNew C e a j = 0 := by unfold cNew; rw [if_neg (by omega), if_neg (by omega), if_pos h]
theorem cNo (C : Ab) (e : Nat) {a j : Nat} (h1 : a ≠ 60 ∨ j ≠ 0) (h2 : a ≠ 70 ∨ j ≠ C 60 0) (h3 : a < 100 + 5 * C 60 0 ∨ 104 + 5 * C 60 0 < a) : cNew C e a j = C a j := by unfold cNew; rw [if_neg (by omega), if_neg (by omega), if_neg (by omega)]
section
variable {x : Cx} {k B : Nat} {C W W0 : Ab} {M : Mm}
theorem st_put0 (h : St x B C W M) {e : Nat} (hr : C 60 0 < C 72 1) (hn : C 60 0 < 200) (t5 : T5 B M e) (hord : ∀ i, i < C 60 0 → C 70 i + 5 ≤ e) (hg : ∀ d q, d < 5 → mV M (e + d) q = i32 0) : St x B (cNew C e) W (sV (sP M (C 72 0) (C 60 0) (some e)) (B + 22) 2 (i32 (C 60 0 + 1))) := by
  obtain ⟨h1, h2, h3, ⟨l1, l2, l3⟩, ⟨m1, m2, m3⟩, h6, v1, v2, v3, v4, v5⟩ := h
  obtain ⟨d1, d2, d3, d4, d5⟩ : C 72 0 ≠ xE x ∧ B + 48 ≤ C 72 0 ∧ C 72 0 < mX M ∧ mK M (C 72 0) = 11 ∧ mN M (C 72 0) = C 72 1 := by
    rcases l3.2.1 with q | q
    · omega
    · exact q
  have hcap := l3.1
  have hcap' := m3.1
  have e600 := cN60 C e
  have e601 : cNew C e 60 1 = C 60 1 := cNo C e (by omega) (by omega) (by omega)
  have e71 : cNew C e 71 = C 71 := by funext j; exact cNo C e (by omega) (by omega) (by omega)
  have e72 : cNew C e 72 = C 72 := by funext j; exact cNo C e (by omega) (by omega) (by omega)
  have e73 : cNew C e 73 = C 73 := by funext j; exact cNo C e (by omega) (by omega) (by omega)
  have e70 : ∀ i, cNew C e 70 i = if i = C 60 0 then e else C 70 i := by
    intro i
    by_cases c : i = C 60 0
    · rw [if_pos c, c, cN70]
    · rw [if_neg c, cNo C e (by omega) (by omega) (by omega)]
  unfold St StV StT
  rw [e600, e601, e71, e72, e73]
  have aP : ∀ b q, b ≠ C 72 0 → mP (sV (sP M (C 72 0) (C 60 0) (some e)) (B + 22) 2 (i32 (C 60 0 + 1))) b q = mP M b q := fun b q hb => by
    rw [sV_P, sP_P, if_neg (fun z => hb z.1)]
  have aV : ∀ b q, b ≠ B + 22 → mV (sV (sP M (C 72 0) (C 60 0) (some e)) (B + 22) 2 (i32 (C 60 0 + 1))) b q = mV M b q := fun b q hb => by
    rw [sV_V, if_neg (fun z => hb z.1)]; rfl
  have aT : ∀ a, T5 B M a → T5 B (sV (sP M (C 72 0) (C 60 0) (some e)) (B + 22) 2 (i32 (C 60 0 + 1))) a := by
    intro a ⟨⟨q1, q2⟩, q3, q4⟩
    refine ⟨⟨q1, q2⟩, q3, ?_⟩
    have : a ≠ C 72 0 := fun z => by rw [z] at q3; omega
    rw [aP _ _ this, aP _ _ this, aP _ _ this, aP _ _ this]
    exact q4
  refine ⟨h1, ⟨h2.1, h2.2.1, fun i q hl => ?_⟩, ⟨by omega, fun i hi => ?_, fun i j hij hj => ?_⟩, ⟨?_, ?_, ⟨by omega, hcap.2⟩, l3.2.1, fun j hj => ?_⟩, ⟨?_, ?_, m3.1, m3.2.1, fun j hj => ?_⟩, h6, ?_, ?_, ?_, ?_, ?_⟩
  · have := spt_i hl
    rw [aP _ _ (by omega)]; exact h2.2.2 i q hl
  · rw [e70]
    by_cases c : i = C 60 0
    · rw [if_pos c]; exact aT e t5
    · rw [if_neg c]; exact aT _ (h3.2.1 i (by omega))
  · rw [e70, e70, if_neg (by omega)]
    by_cases c : j = C 60 0
    · rw [if_pos c]; exact hord i (by omega)
    · rw [if_neg c]; exact h3.2.2 i j hij (by omega)
  · rw [aP _ _ (by omega)]; exact l1
  · rw [sV_V, if_pos ⟨rfl, rfl⟩]
  · rw [e70]
    by_cases c : j = C 60 0
    · rw [if_pos c, sV_P, sP_P, if_pos ⟨rfl, c⟩]
      exact ⟨rfl, t5.2.1, t5.1.1, by have := t5.1.2; show e < mX M; omega⟩
    · rw [if_neg c, sV_P, sP_P, if_neg (fun z => c z.2)]
      exact l3.2.2 j (by omega)
  · rw [aP _ _ (by omega)]; exact m1
  · rw [aV _ _ (by omega)]; exact m2
  · by_cases z : C 72 0 = C 72 2
    · exact absurd (h6 z) d1
    · rw [aP _ _ (fun y => z y.symm)]; exact m3.2.2 j hj
  · intro b q hb; rw [cNo C e (by omega) (by omega) (by omega), aV _ _ (by omega)]; exact v1 b q hb
  · intro j d q hj hd'
    rw [e70]
    by_cases c : j = C 60 0
    · have := t5.1.1
      rw [if_pos c, cNt C e (by omega), aV _ _ (by omega)]; exact hg d q hd'
    · have qq := (h3.2.1 j (by omega)).1.1
      rw [if_neg c, cNo C e (by omega) (by omega) (by omega), aV _ _ (by omega)]; exact v2 j d q (by omega) hd'
  · intro j q hj
    have qq := (m3.2.2 j hj).2.2.1
    rw [cNo C e (by omega) (by omega) (by omega), aV _ _ (by omega)]; exact v3 j q hj
  · intro j q hj
    rw [aV _ _ (by omega)]; exact v4 j q hj
  · rw [cNo C e (by omega) (by omega) (by omega)]; exact v5
/-- a transaction is made -/
theorem c_newT (h : St x B C W M) (r1 : mX M + 5 ≤ xC x) (r2 : mS M + 81 ≤ xL x) : ∃ M1, fX3_init x k (mX M) (nO M 4 0 16) = some ((), M1) ∧ St x B (U (U C 73 0 (mX M + 5)) 73 1 (mS M + 81)) W M1 ∧ mX M1 = mX M + 5 ∧ T5 B M1 (mX M) ∧ ∀ d q, d < 5 → mV M1 (mX M + d) q = i32 0 := by
  have hX := h.1
  have n5 : (5 : Int32).toNatClampNeg = 5 := by decide
  have n20 : (20 : Int32).toNatClampNeg = 20 := by decide
  generalize hM1 : sP (nO (nO M 4 0 16) 8 5 5) (mX M) 4 (some (mX M + 1)) = A1
  generalize hM2 : sP (nO A1 8 20 20) (mX M) 6 (some (mX M + 2)) = A2
  generalize hM3 : sP (nO A2 8 20 20) (mX M) 8 (some (mX M + 3)) = A3
  generalize hM4 : sP (nO A3 8 20 20) (mX M) 9 (some (mX M + 4)) = A4
  have x1 : mX A1 = mX M + 2 := by rw [← hM1]; rfl
  have s1 : mS A1 = mS M + 21 := by rw [← hM1]; rfl
  have x2 : mX A2 = mX M + 3 := by rw [← hM2]; show mX A1 + 1 = _; omega
  have s2 : mS A2 = mS M + 41 := by rw [← hM2]; show mS A1 + 20 = _; omega
  have x3 : mX A3 = mX M + 4 := by rw [← hM3]; show mX A2 + 1 = _; omega
  have s3 : mS A3 = mS M + 61 := by rw [← hM3]; show mS A2 + 20 = _; omega
  have x4 : mX A4 = mX M + 5 := by rw [← hM4]; show mX A3 + 1 = _; omega
  have s4 : mS A4 = mS M + 81 := by rw [← hM4]; show mS A3 + 20 = _; omega
  have K : ∀ a, mK A4 a = if a = mX M then 4 else if mX M < a ∧ a < mX M + 5 then 8 else mK M a := by
    intro a
    rw [← hM4, sP_K, nO_K, x3, ← hM3, sP_K, nO_K, x2, ← hM2, sP_K, nO_K, x1, ← hM1, sP_K, nO_K, nO_X, nO_K]
    repeat' split
    all_goals first | rfl | omega
  have N : ∀ a, mN A4 a = if a = mX M then 0 else if a = mX M + 1 then 5 else if mX M < a ∧ a < mX M + 5 then 20 else mN M a := by
    intro a
    rw [← hM4, sP_N, nO_N, x3, ← hM3, sP_N, nO_N, x2, ← hM2, sP_N, nO_N, x1, ← hM1, sP_N, nO_N, nO_X, nO_N]
    repeat' split
    all_goals first | rfl | omega
  have V : ∀ a q, mV A4 a q = if mX M ≤ a ∧ a < mX M + 5 then i32 0 else mV M a q := by
    intro a q
    rw [← hM4, sP_V, nO_V, x3, ← hM3, sP_V, nO_V, x2, ← hM2, sP_V, nO_V, x1, ← hM1, sP_V, nO_V, nO_X, nO_V]
    by_cases z : mX M ≤ a ∧ a < mX M + 5
    · rw [if_pos z]
      by_cases y4 : a = mX M + 4
      · rw [if_pos y4]
      · rw [if_neg y4]
        by_cases y3 : a = mX M + 3
        · rw [if_pos y3]
        · rw [if_neg y3]
          by_cases y2 : a = mX M + 2
          · rw [if_pos y2]
          · rw [if_neg y2]
            by_cases y1 : a = mX M + 1
            · rw [if_pos y1]
            · rw [if_neg y1, if_pos (by omega)]
    · rw [if_neg z, if_neg (by omega), if_neg (by omega), if_neg (by omega), if_neg (by omega), if_neg (by omega)]
  have P : ∀ a q, mP A4 a q = if a = mX M ∧ q = 9 then some (mX M + 4) else if a = mX M ∧ q = 8 then some (mX M + 3) else if a = mX M ∧ q = 6 then some (mX M + 2) else if a = mX M ∧ q = 4 then some (mX M + 1) else if mX M ≤ a ∧ a < mX M + 5 then none else mP M a q := by
    intro a q
    rw [← hM4, sP_P]
    by_cases y9 : a = mX M ∧ q = 9
    · rw [if_pos y9, if_pos y9]
    · rw [if_neg y9, if_neg y9, nO_P, x3, ← hM3, sP_P, nO_P, x2]
      by_cases y8 : a = mX M ∧ q = 8
      · rw [if_neg (by omega), if_pos y8, if_pos y8]
      · rw [if_neg y8, if_neg y8, ← hM2, sP_P, nO_P, x1]
        by_cases y6 : a = mX M ∧ q = 6
        · rw [if_neg (by omega), if_neg (by omega), if_pos y6, if_pos y6]
        · rw [if_neg y6, if_neg y6, ← hM1, sP_P, nO_P, nO_X, nO_P]
          by_cases y4 : a = mX M ∧ q = 4
          · rw [if_neg (by omega), if_neg (by omega), if_neg (by omega), if_pos y4, if_pos y4]
          · rw [if_neg y4, if_neg y4]
            by_cases z : mX M ≤ a ∧ a < mX M + 5
            · rw [if_pos z]
              by_cases u4 : a = mX M + 4
              · rw [if_pos u4]
              · rw [if_neg u4]
                by_cases u3 : a = mX M + 3
                · rw [if_pos u3]
                · rw [if_neg u3]
                  by_cases u2 : a = mX M + 2
                  · rw [if_pos u2]
                  · rw [if_neg u2]
                    by_cases u1 : a = mX M + 1
                    · rw [if_pos u1]
                    · rw [if_neg u1, if_pos (by omega)]
            · rw [if_neg z, if_neg (by omega), if_neg (by omega), if_neg (by omega), if_neg (by omega), if_neg (by omega)]
  have J : ∀ a q, a < mX M → mJ A4 a q = mJ M a q := by
    intro a q ha
    have g : ∀ A b i v, mJ (sP A b i v) = mJ A := fun _ _ _ _ => rfl
    rw [← hM4, g, nO_J, x3, if_neg (by omega), ← hM3, g, nO_J, x2, if_neg (by omega), ← hM2, g, nO_J, x1, if_neg (by omega), ← hM1, g, nO_J, nO_X, if_neg (by omega), nO_J, if_neg (by omega)]
  refine ⟨A4, ?_, ?_, x4, ?_, fun d q hd => ?_⟩
  · have k1 : mK (nO (nO M 4 0 16) 8 5 5) (mX M) = 4 := by rw [nO_K, nO_X, if_neg (by omega), nO_K, if_pos rfl]
    have ka1 : mK A1 (mX M) = 4 := by rw [← hM1, sP_K]; exact k1
    have k2 : mK (nO A1 8 20 20) (mX M) = 4 := by rw [nO_K, if_neg (by omega)]; exact ka1
    have ka2 : mK A2 (mX M) = 4 := by rw [← hM2, sP_K]; exact k2
    have k3 : mK (nO A2 8 20 20) (mX M) = 4 := by rw [nO_K, if_neg (by omega)]; exact ka2
    have ka3 : mK A3 (mX M) = 4 := by rw [← hM3, sP_K]; exact k3
    have k4 : mK (nO A3 8 20 20) (mX M) = 4 := by rw [nO_K, if_neg (by omega)]; exact ka3
    unfold fX3_init
    rw [n5, n20, if_pos ⟨by decide, by omega, by rw [nO_X]; omega, by rw [nO_S]; omega⟩, if_pos k1]
    show lt1 (sP (nO (nO M 4 0 16) 8 5 5) (mX M) 4 (some (mX M + 1))) _ = _
    rw [hM1, lt1_s, if_pos ⟨by decide, by omega, by rw [x1]; omega, by rw [s1]; omega⟩, if_pos k2, x1, hM2, lt1_s, if_pos ⟨by decide, by omega, by rw [x2]; omega, by rw [s2]; omega⟩, if_pos k3, x2, hM3, lt1_s, if_pos ⟨by decide, by omega, by rw [x3]; omega, by rw [s3]; omega⟩, if_pos k4, x3, hM4, lt1_s]
  · have := st_ext h (M' := A4) (by omega) (fun a ha => ⟨by rw [K, if_neg (by omega), if_neg (by omega)], by rw [N, if_neg (by omega), if_neg (by omega), if_neg (by omega)], fun q => by rw [V, if_neg (by omega)], fun q => by rw [P, if_neg (by omega), if_neg (by omega), if_neg (by omega), if_neg (by omega), if_neg (by omega)], fun q => J a q ha⟩)
    rw [x4, s4] at this
    exact this
  · refine ⟨⟨by omega, by omega⟩, ?_, ⟨?_, ?_, ?_, ?_⟩, ⟨?_, ?_, ?_, ?_⟩, ?_, ?_, ?_, ?_⟩
    · rw [K, if_pos rfl]
    · rw [P, if_neg (by omega), if_neg (by omega), if_neg (by omega), if_pos ⟨rfl, rfl⟩]
    · rw [P, if_neg (by omega), if_neg (by omega), if_pos ⟨rfl, rfl⟩]
    · rw [P, if_neg (by omega), if_pos ⟨rfl, rfl⟩]
    · rw [P, if_pos ⟨rfl, rfl⟩]
    · rw [K, if_neg (by omega), if_pos (by omega)]
    · rw [K, if_neg (by omega), if_pos (by omega)]
    · rw [K, if_neg (by omega), if_pos (by omega)]
    · rw [K, if_neg (by omega), if_pos (by omega)]
    · rw [N, if_neg (by omega), if_pos rfl]
    · rw [N, if_neg (by omega), if_neg (by omega), if_pos (by omega)]
    · rw [N, if_neg (by omega), if_neg (by omega), if_pos (by omega)]
    · rw [N, if_neg (by omega), if_neg (by omega), if_pos (by omega)]
  · rw [V, if_pos (by omega)]
theorem c_add0 (h : St x B C W M) (hn : C 60 0 < 200) {e : Nat} (t5 : T5 B M e) (hord : ∀ i, i < C 60 0 → C 70 i + 5 ≤ e) (hg : ∀ d q, d < 5 → mV M (e + d) q = i32 0) (r1 : C 73 0 + 1 ≤ xC x) (r2 : C 73 1 + 4 * (600 - C 72 1) ≤ xL x) : ∃ C' M', fJx4a65c_add_9ea2d x k (B + 22) e M = some (i32 1, M') ∧ St x B C' W M' ∧ (∀ a j, a ≠ 60 → a ≠ 70 → a ≠ 72 → a ≠ 73 → a < 100 + 5 * C 60 0 ∨ 104 + 5 * C 60 0 < a → C' a j = C a j) ∧ (C' 60 0 = C 60 0 + 1 ∧ C' 60 1 = C 60 1) ∧ (∀ a j, 100 + 5 * C 60 0 ≤ a → a ≤ 104 + 5 * C 60 0 → C' a j = 0) ∧ (C' 72 3 = C 72 3 ∧ C' 72 1 ≤ 600) ∧ C' 73 0 ≤ C 73 0 + 1 ∧ C' 73 1 + 4 * (600 - C' 72 1) ≤ C 73 1 + 4 * (600 - C 72 1) := by
  have h0 : St x B C W (sV M (B + 22) 0 (mV M (B + 22) 0 + 1)) := st_smod h (Or.inl rfl) _
  have t5' : T5 B (sV M (B + 22) 0 (mV M (B + 22) 0 + 1)) e := t5
  have hg' : ∀ d q, d < 5 → mV (sV M (B + 22) 0 (mV M (B + 22) 0 + 1)) (e + d) q = i32 0 := fun d q hd => by have := t5.1.1; rw [sV_Vn _ _ _ _ _ (by omega)]; exact hg d q hd
  have k7 : mK M (B + 22) = 7 := kT0 h
  have pre : fJx4a65c_add_9ea2d x k (B + 22) e M = ob2 (fJx4a65c_add_72be8 x k (B + 22) e (C 72 0) (i32 (C 60 0)) (sV M (B + 22) 0 (mV M (B + 22) 0 + 1))) (fun _ M8 => some (i32 1, M8)) := by
    have p1 := h0.2.2.2.1.1
    have p2 := h0.2.2.2.1.2.1
    unfold fJx4a65c_add_9ea2d
    rw [if_pos k7, if_pos k7, if_pos (show mK (sV M (B + 22) 0 (mV M (B + 22) 0 + 1)) (B + 22) = 7 from k7), p1, ob1_s, if_pos (show mK (sV M (B + 22) 0 (mV M (B + 22) 0 + 1)) (B + 22) = 7 from k7), if_pos (show mK (sV M (B + 22) 0 (mV M (B + 22) 0 + 1)) (B + 22) = 7 from k7), p2]
    rfl
  rw [pre]
  clear pre
  generalize sV M (B + 22) 0 (mV M (B + 22) 0 + 1) = M1 at *
  clear h hg t5
  have k7 : mK M1 (B + 22) = 7 := kT0 h0
  have hX := h0.1
  have he := t5'.1
  have ke := t5'.2.1
  obtain ⟨m1, m2, m3, m4, m5⟩ := h0.2.2.2.1
  have hd' : C 72 0 = xE x ∨ mK M1 (C 72 0) = 11 := by
    rcases m4 with q | q
    · exact Or.inl q.1
    · exact Or.inr q.2.2.2.1
  have hlen : lenE x M1 (C 72 0) = i32 (C 72 1) := by
    unfold lenE
    rcases m4 with q | q
    · rw [if_pos q.1, q.2]; rfl
    · rw [if_neg q.1, q.2.2.2.2]; rfl
  by_cases full : C 60 0 = C 72 1
  · obtain ⟨G, c, eG, hG, hc, pG⟩ := g_grow (x := x) (k := k) (M := M1) (hd := B + 22) (d := C 72 0) (n := C 60 0) k7 m1 m2 (by omega) (by omega) (by
      rcases m4 with q | q
      · exact Or.inl ⟨q.1, by omega⟩
      · exact Or.inr ⟨q.1, q.2.2.1, q.2.2.2.1, by rw [q.2.2.2.2]; omega⟩) (fun i hi => by
      obtain ⟨z1, z2, z3, z4⟩ := m5 i hi
      exact ⟨_, z1, Or.inr z2, z4⟩) (by omega) (by omega)
    have hxG : mX G = mX M1 + 1 := hG.1
    have h1 : St x B _ W G := st_ext h0 (by omega) hG.2.2.2
    have h2 := st_ptr0 h1 (a := mX M1) (c := c) (by omega) hG.2.2.1.1 hG.2.2.1.2 (by simp (disch := omega) only [U_r]; omega) (fun j hj => by
      simp (disch := omega) only [U_r] at hj ⊢
      rw [pG j hj]; exact (m5 j hj).1) (by
      simp (disch := omega) only [U_r]
      have q := h0.2.2.2.2.1.2.2.2.1
      rcases q with q | q <;> omega)
    have gK : ∀ d, d < 5 → mK G (e + d) = mK M1 (e + d) := fun d hd => (hG.2.2.2 (e + d) (by omega)).1
    have gN : ∀ d, d < 5 → mN G (e + d) = mN M1 (e + d) := fun d hd => (hG.2.2.2 (e + d) (by omega)).2.1
    have gP : ∀ q, mP G e q = mP M1 e q := fun q => (hG.2.2.2 e (by omega)).2.2.2.1 q
    have t5G : T5 B (sP G (B + 22) 1 (some (mX M1))) e := by
      obtain ⟨-, z2, z3, z4, z5⟩ := t5'
      have pp : ∀ q, mP (sP G (B + 22) 1 (some (mX M1))) e q = mP M1 e q := fun q => by rw [sP_P, if_neg (by omega)]; exact gP q
      unfold T5
      rw [pp, pp, pp, pp]
      refine ⟨⟨he.1, by show e + 5 ≤ mX G; omega⟩, ?_, z3, ?_, ?_⟩
      · show mK G e = 4; exact (gK 0 (by omega)).trans z2
      · show mK G (e + 1) = 8 ∧ mK G (e + 2) = 8 ∧ mK G (e + 3) = 8 ∧ mK G (e + 4) = 8
        rw [gK 1 (by omega), gK 2 (by omega), gK 3 (by omega), gK 4 (by omega)]; exact z4
      · show mN G (e + 1) = 5 ∧ mN G (e + 2) = 20 ∧ mN G (e + 3) = 20 ∧ mN G (e + 4) = 20
        rw [gN 1 (by omega), gN 2 (by omega), gN 3 (by omega), gN 4 (by omega)]; exact z5
    have h3 := st_put0 h2 (e := e) (by simp (disch := omega) only [U_r, U_s, U_k]; omega) (by simp (disch := omega) only [U_r]; exact hn) t5G (fun i hi => by simp (disch := omega) only [U_r] at hi ⊢; exact hord i hi) (fun d q hd => by show mV G (e + d) q = _; rw [(hG.2.2.2 (e + d) (by omega)).2.2.1]; exact hg' d q hd)
    have e60 : U (U (U (U C 73 0 (mX G)) 73 1 (mS G)) 72 0 (mX M1)) 72 1 c 60 0 = C 60 0 := by simp (disch := omega) only [U_ne]
    have hs := hG.2.1
    refine ⟨_, _, ?_, h3, fun a j a1 a2 a3 a4 a5 => ?_, ⟨?_, ?_⟩, fun a j a1 a2 => ?_, ⟨?_, ?_⟩, ?_, ?_⟩
    · unfold fJx4a65c_add_72be8
      rw [if_pos hd', hlen, if_pos (by rw [full]), if_pos k7, eG]
      unfold fJx4a65c_add_72be8_11
      simp (disch := omega) only [U_r, U_s, U_k]
      show ob2 (if mK G (mX M1) = 11 ∧ (mK G e = 2 ∨ mK G e = 4) ∧ ¬ (i32 (C 60 0) < i32 0 ∨ mN G (mX M1) ≤ (i32 (C 60 0)).toNatClampNeg) then _ else _) _ = _
      rw [if_pos ⟨hG.2.2.1.1, Or.inr ((gK 0 (by omega)).trans ke), by rw [hG.2.2.1.2, i_ix (by omega) (by omega)]; exact not_false⟩, i_nat (by omega), show (1 : Int32) = i32 1 from rfl, i_add]
      show ob2 (if mK G (B + 22) = 7 then _ else _) _ = _
      rw [if_pos (show mK G (B + 22) = 7 by rw [(hG.2.2.2 (B + 22) (by omega)).1]; exact k7)]
      rfl
    · rw [cNo _ _ (by omega) (by omega) (by rw [e60]; exact a5)]
      simp (disch := omega) only [U_ne]
    · rw [cN60, e60]
    · rw [cNo _ _ (by omega) (by omega) (by omega)]; simp (disch := omega) only [U_ne]
    · exact cNt _ _ (by rw [e60]; omega)
    · rw [cNo _ _ (by omega) (by omega) (by omega)]; simp (disch := omega) only [U_ne]
    · rw [cNo _ _ (by omega) (by omega) (by omega)]; simp (disch := omega) only [U_ne, U_s]; omega
    · rw [cNo _ _ (by omega) (by omega) (by omega)]; simp (disch := omega) only [U_ne, U_s]; omega
    · rw [cNo _ _ (by omega) (by omega) (by omega), cNo _ _ (by omega) (by omega) (by omega)]; simp (disch := omega) only [U_ne, U_s]; omega
  · have hlt : C 60 0 < C 72 1 := by omega
    have h3 := st_put0 h0 (e := e) hlt hn t5' hord hg'
    obtain ⟨d1, d2, d3, d4, d5⟩ : C 72 0 ≠ xE x ∧ B + 48 ≤ C 72 0 ∧ C 72 0 < mX M1 ∧ mK M1 (C 72 0) = 11 ∧ mN M1 (C 72 0) = C 72 1 := by
      rcases m4 with q | q
      · omega
      · exact q
    refine ⟨_, _, ?_, h3, fun a j a1 a2 a3 a4 a5 => cNo _ _ (by omega) (by omega) a5, ⟨cN60 _ _, cNo _ _ (by omega) (by omega) (by omega)⟩, fun a j a1 a2 => cNt _ _ ⟨a1, a2⟩, ⟨cNo _ _ (by omega) (by omega) (by omega), ?_⟩, ?_, ?_⟩
    · unfold fJx4a65c_add_72be8
      rw [if_pos hd', hlen, if_neg (by rw [i_eq (by omega) (by omega)]; exact full)]
      unfold fJx4a65c_add_72be8_11
      rw [if_pos ⟨d4, Or.inr ke, by rw [d5, show (0 : Int32) = i32 0 from rfl, i_ix (by omega) (by omega)]; exact not_false⟩, i_nat (by omega), show (1 : Int32) = i32 1 from rfl, i_add, if_pos (show mK (sP M1 (C 72 0) (C 60 0) (some e)) (B + 22) = 7 from k7)]
      rfl
    · rw [cNo _ _ (by omega) (by omega) (by omega)]; exact m3.2
    · rw [cNo _ _ (by omega) (by omega) (by omega)]; omega
    · rw [cNo _ _ (by omega) (by omega) (by omega), cNo _ _ (by omega) (by omega) (by omega)]; omega
end
