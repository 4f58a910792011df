/-! Letters are taken out; all are cleared -/
section
variable {x : Cx} {k B : Nat} {C W W0 : Ab} {M : Mm}
/-- the list of letters holds some of what it held -/
theorem st_list1 (h : St x B C W M) {M' : Mm} {C' : Ab} (eX : mX M' = mX M) (eS : mS M' = mS M) (eK : mK M' = mK M) (eN : mN M' = mN M) (eJ : mJ M' = mJ M) (eV : ∀ a k, a ≠ B + 23 → mV M' a k = mV M a k) (eV2 : mV M' (B + 23) 2 = i32 (C' 60 1)) (eP : ∀ a k, a ≠ C 72 2 → mP M' a k = mP M a k) (hE : C 72 2 = xE x → ∀ k, mP M' (C 72 2) k = mP M (C 72 2) k) (hn : C' 60 1 ≤ C 60 1) (hC : ∀ a j, a < 60 ∨ a = 70 ∨ a = 72 ∨ a = 73 ∨ a = 74 ∨ 100 ≤ a ∧ a < 2000 → C' a j = C a j) (h60 : C' 60 0 = C 60 0) (hl : ∀ j, j < C' 60 1 → ∃ i, i < C 60 1 ∧ C' 71 j = C 71 i ∧ mP M' (C 72 2) j = some (C 71 i) ∧ ∀ k, C' (2000 + j) k = C (2000 + i) k) : St x B C' W M' := by
  obtain ⟨h1, h2, h3, ⟨l1, l2, l3⟩, ⟨m1, m2, m3⟩, h6, v1, v2, v3, v4, v5⟩ := h
  have e70 : C' 70 = C 70 := by funext j; exact hC _ _ (by omega)
  have e72 : C' 72 = C 72 := by funext j; exact hC _ _ (by omega)
  have e73 : C' 73 = C 73 := by funext j; exact hC _ _ (by omega)
  have hcap := m3.1
  have aP : ∀ b k, b ≠ C 72 2 ∨ C 72 2 = xE x → mP M' b k = mP M b k := fun b k hb => by
    by_cases z : b = C 72 2
    · rcases hb with hb | hb
      · exact absurd z hb
      · rw [z]; exact hE hb k
    · exact eP b k z
  have d48 : C 72 2 = xE x ∨ B + 48 ≤ C 72 2 := by
    rcases m3.2.1 with q | q
    · exact Or.inl q.1
    · exact Or.inr q.2.1
  unfold St StV StT Ls T5
  rw [h60, e70, e72, e73, eX, eS, eK, eN]
  refine ⟨h1, ⟨fun i hi => by rw [eK]; exact h2.1 i hi, fun i hi hl => by rw [eN]; exact h2.2.1 i hi hl, fun i k hl => ?_⟩, ⟨h3.1, fun i hi => ?_, h3.2.2⟩, ⟨?_, ?_, l3.1, l3.2.1, fun j hj => ?_⟩, ⟨?_, eV2, ⟨by omega, hcap.2⟩, m3.2.1, fun j hj => ?_⟩, h6, ?_, ?_, ?_, ?_, by rw [eJ, hC _ _ (by omega)]; exact v5⟩
  · have := spt_i hl
    rw [aP _ _ (by omega)]; exact h2.2.2 i k hl
  · obtain ⟨⟨q1, q2⟩, q3, q4⟩ := h3.2.1 i hi
    refine ⟨⟨q1, q2⟩, q3, ?_⟩
    have : C 70 i ≠ C 72 2 ∨ C 72 2 = xE x := by
      rcases m3.2.1 with q | q
      · exact Or.inr q.1
      · refine Or.inl (fun z => ?_)
        rw [z] at q3; omega
    rw [aP _ _ this, aP _ _ this, aP _ _ this, aP _ _ this]
    exact q4
  · rw [aP _ _ (by omega)]; exact l1
  · rw [eV _ _ (by omega)]; exact l2
  · have q : C 72 0 ≠ C 72 2 ∨ C 72 2 = xE x := by
      by_cases z : C 72 0 = C 72 2
      · exact Or.inr (by rw [← z]; exact h6 z)
      · exact Or.inl z
    rw [aP _ _ q]; exact l3.2.2 j hj
  · rw [aP _ _ (by omega)]; exact m1
  · obtain ⟨i, hi, q1, q2, -⟩ := hl j hj
    rw [q1]
    exact ⟨q2, (m3.2.2 i hi).2⟩
  · intro b k' hb; rw [hC _ _ (by omega), eV _ _ (by omega)]; exact v1 b k' hb
  · intro j d k' hj hd'
    have hh := h3.1
    have q := (h3.2.1 j hj).1.1
    rw [hC _ _ (by omega), eV _ _ (by omega)]; exact v2 j d k' hj hd'
  · intro j k' hj
    obtain ⟨i, hi, q1, q2, q3⟩ := hl j hj
    have q := (m3.2.2 i hi).2.2.1
    rw [q1, q3, eV _ _ (by omega)]; exact v3 i k' hi
  · intro j k' hj
    rw [eV _ _ (by omega)]; exact v4 j k' hj
/-- the numbers without the letter i -/
def cTake (C : Ab) (i : Nat) : Ab := fun a j => if a = 60 ∧ j = 1 then C 60 1 - 1 else if a = 71 then (if j < i then C 71 j else C 71 (j + 1)) else if 2000 + i ≤ a then C (a + 1) j else C a j
theorem cT60 (C : Ab) (i : Nat) : cTake C i 60 1 = C 60 1 - 1 := if_pos ⟨rfl, rfl⟩
theorem cT71 (C : Ab) (i j : Nat) : cTake C i 71 j = if j < i then C 71 j else C 71 (j + 1) := by
  unfold cTake; rw [if_neg (by omega), if_pos rfl]
theorem cTo (C : Ab) (i : Nat) {a j : Nat} (h1 : a ≠ 60 ∨ j ≠ 1) (h2 : a ≠ 71) (h3 : a < 2000 + i) : cTake C i a j = C a j := by
  unfold cTake; rw [if_neg (by omega), if_neg h2, if_neg (by omega)]
theorem cTl (C : Ab) (i : Nat) {a j : Nat} (h3 : 2000 + i ≤ a) : cTake C i a j = C (a + 1) j := by
  unfold cTake; rw [if_neg (by omega), if_neg (by omega), if_pos h3]
theorem c_remove (h : St x B C W0 M) (hn : C 60 1 ≤ 300) {i : Nat} (hi : i < C 60 1) : ∃ M', fJx4a65c_remove_915e3 x k (B + 23) (i32 i) M = some (C 71 i, M') ∧ St x B (cTake C i) W0 M' ∧ mK M' = mK M ∧ ∀ a k, a ≠ B + 23 → mV M' a k = mV M a k := by
  have hX := h.1
  obtain ⟨m1, m2, m3, m4, m5⟩ := h.2.2.2.2.1
  obtain ⟨d1, d2, d3, d4, d5⟩ : C 72 2 ≠ xE x ∧ B + 48 ≤ C 72 2 ∧ C 72 2 < mX M ∧ mK M (C 72 2) = 11 ∧ mN M (C 72 2) = C 72 3 := by
    rcases m4 with q | q
    · omega
    · exact q
  have k7 : mK M (B + 23) = 7 := kL0 h
  have e1 : fJ15_checkIndex_7cf53 x k (i32 i) (i32 (C 60 1)) M = some (i32 i, M) := by
    have q : fJ3_checkIndex_8e157 x k (i32 i) (i32 (C 60 1)) () M = some (i32 i, M) := by
      unfold fJ3_checkIndex_8e157
      exact e_in (by rw [i_lit, i_lt (by omega) (by omega)]; omega) (e_ip (by rw [i_lt (by omega) (by omega)]; exact hi) rfl)
    unfold fJ15_checkIndex_7cf53
    rw [q]; rfl
  have pi := (m5 i hi).1
  have key : ∃ M', fJx4a65c_fastRemove_b59b0 x k (B + 23) (C 72 2) (i32 i) M = some ((), M') ∧ mX M' = mX M ∧ mS M' = mS M ∧ mK M' = mK M ∧ mN M' = mN M ∧ mJ M' = mJ M ∧ (∀ a k, a ≠ B + 23 → mV M' a k = mV M a k) ∧ mV M' (B + 23) 2 = i32 (C 60 1 - 1) ∧ (∀ a k, a ≠ C 72 2 → mP M' a k = mP M a k) ∧ ∀ j, j < C 60 1 - 1 → mP M' (C 72 2) j = some (if j < i then C 71 j else C 71 (j + 1)) := by
    have v2 : mV (sV M (B + 23) 0 (mV M (B + 23) 0 + 1)) (B + 23) 2 = i32 (C 60 1) := by rw [sV_V, if_neg (by omega)]; exact m2
    have v3 : mV (sV M (B + 23) 0 (mV M (B + 23) 0 + 1)) (B + 23) 2 - 1 = i32 (C 60 1 - 1) := by rw [v2, show (1 : Int32) = i32 1 from rfl, i_sub (by omega)]
    have tail : ∀ M1 : Mm, mK M1 = mK M → mN M1 = mN M → fJx4a65c_fastRemove_b59b0_34 x k (B + 23) (C 72 2) (i32 (C 60 1 - 1)) M1 = some ((), sP (sV M1 (B + 23) 2 (i32 (C 60 1 - 1))) (C 72 2) (C 60 1 - 1) none) := by
      intro M1 q1 q2
      unfold fJx4a65c_fastRemove_b59b0_34
      rw [if_pos (by rw [q1]; exact k7), i_nat (by omega), if_pos ⟨by rw [sV_K, q1]; exact d4, by rw [sV_N, q2, d5]; rw [show (0 : Int32) = i32 0 from rfl]; intro z; rcases z with z | z; exact i_nn (by omega) z; omega⟩]
    by_cases c : C 60 1 - 1 ≤ i
    · refine ⟨sP (sV (sV M (B + 23) 0 (mV M (B + 23) 0 + 1)) (B + 23) 2 (i32 (C 60 1 - 1))) (C 72 2) (C 60 1 - 1) none, ?_, rfl, rfl, rfl, rfl, rfl, fun a q ha => ?_, ?_, fun a q ha => ?_, fun j hj => ?_⟩
      · unfold fJx4a65c_fastRemove_b59b0
        rw [if_pos k7, if_pos k7, if_pos (show mK (sV M (B + 23) 0 (mV M (B + 23) 0 + 1)) (B + 23) = 7 from k7), v3, if_pos (by rw [i_le (by omega) (by omega)]; exact c)]
        exact tail _ rfl rfl
      · show mV (sV (sV M (B + 23) 0 (mV M (B + 23) 0 + 1)) (B + 23) 2 (i32 (C 60 1 - 1))) a q = _
        rw [sV_Vn _ _ _ _ _ ha, sV_Vn _ _ _ _ _ ha]
      · show mV (sV (sV M (B + 23) 0 (mV M (B + 23) 0 + 1)) (B + 23) 2 (i32 (C 60 1 - 1))) _ _ = _
        rw [sV_V, if_pos ⟨rfl, rfl⟩]
      · rw [sP_P, if_neg (fun z => ha z.1)]; rfl
      · rw [sP_P, if_neg (by omega), if_pos (by omega)]; exact (m5 j (by omega)).1
    · refine ⟨sP (sV (sR (sV M (B + 23) 0 (mV M (B + 23) 0 + 1)) (C 72 2) (va_cpy (mP (sV M (B + 23) 0 (mV M (B + 23) 0 + 1)) (C 72 2)) (mP (sV M (B + 23) 0 (mV M (B + 23) 0 + 1)) (C 72 2)) (i + 1) i (C 60 1 - 1 - i))) (B + 23) 2 (i32 (C 60 1 - 1))) (C 72 2) (C 60 1 - 1) none, ?_, rfl, rfl, rfl, rfl, rfl, fun a q ha => ?_, ?_, fun a q ha => ?_, fun j hj => ?_⟩
      · have hok : okE (sV M (B + 23) 0 (mV M (B + 23) 0 + 1)) (C 72 2) (i + 1) (C 60 1 - 1 - i) = true := okE_of (fun j hj => by
          obtain ⟨z1, z2, z3, z4⟩ := m5 (i + 1 + j) (by omega)
          exact ⟨_, z1, Or.inl z2⟩)
        unfold fJx4a65c_fastRemove_b59b0
        rw [if_pos k7, if_pos k7, if_pos (show mK (sV M (B + 23) 0 (mV M (B + 23) 0 + 1)) (B + 23) = 7 from k7), v3, if_neg (by rw [i_le (by omega) (by omega)]; exact c), show (1 : Int32) = i32 1 from rfl, i_add, i_sub (show i ≤ C 60 1 - 1 by omega), i_nat (show i + 1 < 2147483648 by omega), i_nat (show i < 2147483648 by omega), i_nat (show C 60 1 - 1 - i < 2147483648 by omega), show (0 : Int32) = i32 0 from rfl]
        rw [show i32 1 = (1 : Int32) from rfl]
        rw [if_pos ⟨Or.inl d4, d4, i_nn (by omega), i_nn (by omega), i_nn (by omega), by show _ ≤ mN M (C 72 2); rw [d5]; omega, by show _ ≤ mN M (C 72 2); rw [d5]; omega, hok⟩]
        exact tail _ rfl rfl
      · show mV (sV (sV M (B + 23) 0 (mV M (B + 23) 0 + 1)) (B + 23) 2 (i32 (C 60 1 - 1))) a q = _
        rw [sV_Vn _ _ _ _ _ ha, sV_Vn _ _ _ _ _ ha]
      · rw [sP_V, sV_V, if_pos ⟨rfl, rfl⟩]
      · rw [sP_P, if_neg (fun z => ha z.1), sV_P, sR_P, if_neg ha]; rfl
      · rw [sP_P, if_neg (by omega), sV_P, sR_P, if_pos rfl]
        unfold va_cpy
        by_cases z : j < i
        · rw [if_neg (by omega), if_pos z]; exact (m5 j (by omega)).1
        · rw [if_pos (by omega), if_neg z, show i + 1 + (j - i) = j + 1 by omega]; exact (m5 (j + 1) (by omega)).1
  obtain ⟨M', e, eX, eS, eK, eN, eJ, eV, eV2, eP, eL⟩ := key
  refine ⟨M', ?_, ?_, eK, eV⟩
  · unfold fJx4a65c_remove_915e3
    rw [if_pos k7, m2, e1, ob2_s, if_pos k7, m1, ob1_s, i_nat (by omega), if_pos ⟨Or.inr d4, by rw [d5]; rw [show (0 : Int32) = i32 0 from rfl]; intro z; rcases z with z | z; exact i_nn (by omega) z; omega⟩, pi, ob1_s, if_pos k7, e]
    rfl
  · refine st_list1 h eX eS eK eN eJ eV (by rw [cT60]; exact eV2) eP (fun z => absurd z d1) (by rw [cT60]; omega) (fun a j ha => cTo C i (by omega) (by omega) (by omega)) (cTo C i (by omega) (by omega) (by omega)) (fun j hj => ?_)
    rw [cT60] at hj
    by_cases z : j < i
    · refine ⟨j, by omega, ?_, ?_, fun q => cTo C i (by omega) (by omega) (by omega)⟩
      · rw [cT71, if_pos z]
      · rw [eL j hj, if_pos z]
    · refine ⟨j + 1, by omega, ?_, ?_, fun q => cTl C i (by omega)⟩
      · rw [cT71, if_neg z]
      · rw [eL j hj, if_neg z]
theorem rl_take (r : Rl C W) {i : Nat} (hi : i < W 0 23) : Rl (cTake C i) (wTake W i) := by
  have hb := r.b
  have e23 := r.s.2.2.2
  have w0 : ∀ j, j ≠ 23 → wTake W i 0 j = W 0 j := fun j hj => by unfold wTake; rw [U_k _ _ _ hj, tkF_r _ _ (by omega)]
  have w23 : wTake W i 0 23 = W 0 23 - 1 := U_s _ _ _ _
  refine rl_let r (fun a j ha => Or.inl (cTo C i (by omega) (by omega) (by omega))) (cTo C i (by omega) (by omega) (by omega)) (fun a j h1 h2 => ?_) ⟨w0 _ (by omega), w0 _ (by omega), w0 _ (by omega)⟩ ?_ ?_ ?_ (fun j q hj hq => ?_)
  · unfold wTake; rw [U_r _ h1, tkF_r _ _ h2]
  · rw [cTo C i (by omega) (by omega) (by omega), w0 _ (by omega)]; exact r.s.2.2.1
  · rw [cT60, w23, e23]
  · rw [w23]; omega
  · rw [w23] at hj
    have e : wTake W i 20 (4 * j + q) = tkF W i (4 * (W 0 23 - 1 - i)) 20 (4 * j + q) := U_r _ (by omega) _ _ _
    rw [e]
    have tl := tkF_lo W i (j := 4 * j + q) (4 * (W 0 23 - 1 - i))
    by_cases z : j < i
    · rw [cTo C i (by omega) (by omega) (by omega), tl.1 (by omega)]; exact r.l j q (by omega) hq
    · rw [cTl C i (by omega), tl.2 (by omega) (by omega), show 2000 + j + 1 = 2000 + (j + 1) by omega, r.l (j + 1) q (by omega) hq]
      congr 1
      omega
/-- what taking out leaves of the room -/
def Kq (C C' : Ab) : Prop := C' 60 0 = C 60 0 ∧ (∀ i, C' 70 i = C 70 i) ∧ pX C' ≤ pX C + 2 ∧ pZ C' ≤ pZ C + 4
theorem kq_take {i : Nat} (hn : C 60 1 ≤ 300) (hi : i < C 60 1) : Kq C (cTake C i) := by
  refine ⟨cTo C i (by omega) (by omega) (by omega), fun j => cTo C i (by omega) (by omega) (by omega), ?_, ?_⟩
  · unfold pX; rw [cT60, cTo C i (by omega) (by omega) (by omega)]; omega
  · unfold pZ; rw [cT60, cTo C i (by omega) (by omega) (by omega), cTo C i (by omega) (by omega) (by omega), cTo C i (by omega) (by omega) (by omega)]; omega
/-- all letters gone -/
theorem c_clear27 {d n : Nat} : ∀ f j M, mK M d = 11 → n ≤ mN M d → n ≤ 1000 → j ≤ n → n < f + j → ∃ M', fJx4a65c_clear_da8c8_27 x k f d (i32 n) (i32 j) M = some ((), M') ∧ mX M' = mX M ∧ mS M' = mS M ∧ mK M' = mK M ∧ mN M' = mN M ∧ mJ M' = mJ M ∧ mV M' = mV M ∧ ∀ a q, a ≠ d → mP M' a q = mP M a q := by
  intro f
  induction f with
  | zero => intro j M _ _ _ h1 h2; omega
  | succ f ih =>
    intro j M kd nd hn hj hf
    by_cases c : n ≤ j
    · refine ⟨M, ?_, rfl, rfl, rfl, rfl, rfl, rfl, fun _ _ _ => rfl⟩
      rw [fJx4a65c_clear_da8c8_27, if_pos (by rw [i_le (by omega) (by omega)]; exact c)]
    · obtain ⟨M', e, q1, q2, q3, q4, q45, q5, q6⟩ := ih (j + 1) (sP M d j none) kd nd hn (by omega) (by omega)
      refine ⟨M', ?_, q1, q2, q3, q4, q45, q5, fun a q ha => by rw [q6 a q ha, sP_P, if_neg (fun z => ha z.1)]⟩
      rw [← e, fJx4a65c_clear_da8c8_27, if_neg (by rw [i_le (by omega) (by omega)]; exact c), i_nat (by omega), if_pos ⟨kd, by rw [show (0 : Int32) = i32 0 from rfl]; intro z; rcases z with z | z; exact i_nn (by omega) z; omega⟩, show (1 : Int32) = i32 1 from rfl, i_add]
theorem c_clear (hk : 5000 ≤ k) (h : St x B C W0 M) (hn : C 60 1 ≤ 300) : ∃ M', fJx4a65c_clear_da8c8 x k (B + 23) M = some ((), M') ∧ St x B (U C 60 1 0) W0 M' := by
  have hX := h.1
  obtain ⟨m1, m2, m3, m4, m5⟩ := h.2.2.2.2.1
  have k7 : mK M (B + 23) = 7 := kL0 h
  have v2 : mV (sV M (B + 23) 0 (mV M (B + 23) 0 + 1)) (B + 23) 2 = i32 (C 60 1) := by rw [sV_V, if_neg (by omega)]; exact m2
  have pre : fJx4a65c_clear_da8c8 x k (B + 23) M = fJx4a65c_clear_da8c8_27 x k k (C 72 2) (i32 (C 60 1)) (i32 0) (sV (sV M (B + 23) 0 (mV M (B + 23) 0 + 1)) (B + 23) 2 (i32 0)) := by
    unfold fJx4a65c_clear_da8c8
    rw [if_pos k7, if_pos k7, if_pos (show mK (sV M (B + 23) 0 (mV M (B + 23) 0 + 1)) (B + 23) = 7 from k7), show mP (sV M (B + 23) 0 (mV M (B + 23) 0 + 1)) (B + 23) 1 = some (C 72 2) from m1, ob1_s, if_pos (show mK (sV M (B + 23) 0 (mV M (B + 23) 0 + 1)) (B + 23) = 7 from k7), if_pos (show mK (sV M (B + 23) 0 (mV M (B + 23) 0 + 1)) (B + 23) = 7 from k7), v2]
    rfl
  rw [pre]
  have key : ∃ M', fJx4a65c_clear_da8c8_27 x k k (C 72 2) (i32 (C 60 1)) (i32 0) (sV (sV M (B + 23) 0 (mV M (B + 23) 0 + 1)) (B + 23) 2 (i32 0)) = some ((), M') ∧ mX M' = mX M ∧ mS M' = mS M ∧ mK M' = mK M ∧ mN M' = mN M ∧ mJ M' = mJ M ∧ mV M' = mV (sV (sV M (B + 23) 0 (mV M (B + 23) 0 + 1)) (B + 23) 2 (i32 0)) ∧ (∀ a q, a ≠ C 72 2 → mP M' a q = mP M a q) ∧ (C 72 2 = xE x → ∀ q, mP M' (C 72 2) q = mP M (C 72 2) q) := by
    by_cases z : C 72 2 = xE x
    · have z0 : C 60 1 = 0 := by
        rcases m4 with q | q
        · omega
        · exact absurd z q.1
      refine ⟨sV (sV M (B + 23) 0 (mV M (B + 23) 0 + 1)) (B + 23) 2 (i32 0), ?_, rfl, rfl, rfl, rfl, rfl, rfl, fun _ _ _ => rfl, fun _ _ => rfl⟩
      obtain ⟨k', rfl⟩ : ∃ k', k = k' + 1 := ⟨k - 1, by omega⟩
      rw [z0, fJx4a65c_clear_da8c8_27, if_pos (by rw [i_le (by omega) (by omega)]; omega)]
    · obtain ⟨d1, d2, d3, d4, d5⟩ : C 72 2 ≠ xE x ∧ B + 48 ≤ C 72 2 ∧ C 72 2 < mX M ∧ mK M (C 72 2) = 11 ∧ mN M (C 72 2) = C 72 3 := by
        rcases m4 with q | q
        · exact absurd q.1 z
        · exact q
      obtain ⟨M', e, q1, q2, q3, q4, q45, q5, q6⟩ := c_clear27 (x := x) (k := k) (d := C 72 2) (n := C 60 1) k 0 (sV (sV M (B + 23) 0 (mV M (B + 23) 0 + 1)) (B + 23) 2 (i32 0)) d4 (by show _ ≤ mN M (C 72 2); omega) (by omega) (by omega) (by omega)
      exact ⟨M', e, q1, q2, q3, q4, q45, q5, q6, fun z' => absurd z' z⟩
  obtain ⟨M', e, eX, eS, eK, eN, eJ, eV, eP, eE⟩ := key
  refine ⟨M', e, st_list1 h eX eS eK eN eJ (fun a q ha => ?_) ?_ eP eE (by rw [U_s]; omega) (fun a j ha => U_r _ (by omega) _ _ _) (U_k _ _ _ (by omega) _) (fun j hj => by rw [U_s] at hj; omega)⟩
  · rw [eV, sV_Vn _ _ _ _ _ ha, sV_Vn _ _ _ _ _ ha]
  · rw [eV, sV_V, if_pos ⟨rfl, rfl⟩, U_s]
end
