/-! The start: the state -/
theorem C0_e (e X S : Nat) (a k : Nat) : C0 e X S a k = if a = 0 ∧ k = 4 then 2 else if 2 ≤ a ∧ a < 22 ∧ a % 4 = 2 ∧ k = 0 then 1 else if 2 ≤ a ∧ a < 22 ∧ a % 4 = 0 ∧ k < 20 then 4294967295 else if a = 72 ∧ (k = 0 ∨ k = 2) then e else if a = 73 ∧ k = 0 then X else if a = 73 ∧ k = 1 then S else 0 := by
  unfold C0 Dz Cz U
  dsimp only
  repeat' split
  all_goals first | rfl | omega
theorem W0_e (i j : Nat) : wBegins Wz 2 i j = vW i j := by
  obtain ⟨a0, a4, a5, a23, a24⟩ := bg_0 Wz 2
  unfold vW
  by_cases hi : i = 0
  · subst hi
    by_cases z0 : j = 0
    · subst z0; rw [a0]; rfl
    · rw [if_neg (by omega), if_neg (by omega)]
      by_cases z4 : j = 4
      · subst z4; exact a4
      · by_cases z5 : j = 5
        · subst z5; exact a5
        · by_cases z23 : j = 23
          · subst z23; exact a23
          · by_cases z24 : j = 24
            · subst z24; exact a24
            · unfold wBegins
              simp (disch := omega) only [fl_c, U_ne]
              unfold Wz
              repeat' split
              all_goals first | rfl | omega
  · rw [bg_r _ _ hi]
    unfold Wz
    repeat' split
    all_goals first | rfl | omega
theorem finz0 {T : Tb} (hx : tX T = 47) (z : Zr T) (j q : Nat) (hq : 25 ≤ q) : tV (tA (tFl T 28 0 100 4294967295) 12 1 1) j q = if j = 28 ∧ q < 100 then 4294967295 else 0 := by
  show (if j = tX T then 0 else if j = 28 ∧ 0 ≤ q ∧ q < 100 then 4294967295 else tV T j q) = _
  rw [z j q hq, hx]
  repeat' split
  all_goals first | rfl | omega
theorem tIn_X : tX tIn = 47 := by
  unfold tIn
  rw [tFl_X, tFl_X, tSv_X, tSv_X, tSv_X, tSv_X, tSv_X]
  exact tMd_f.1
theorem tFin_in : tFin = tA (tFl tIn 28 0 100 4294967295) 12 1 1 := by
  unfold tFin
  rw [tMd_in]
theorem fin_z (j q : Nat) (hq : 25 ≤ q) : tV tFin' j q = if j = 28 ∧ q < 100 then 4294967295 else 0 := by
  have h := finz0 tIn_X zr_In j q hq
  rw [← tFin_in, tFin_e] at h
  exact h
section
variable {x : Cx} {k B S0 : Nat} {M : Mm}
theorem st_start (r : Rb x B S0 tFin' M) (hE : xE x < B) (hJ : mJ M (B + 47) 0 = 0) : St x B (C0 (xE x) (mX M) (mS M)) (wBegins Wz 2) M := by
  have hX : mX M = B + 48 := by rw [r.1, fin_X]
  have e60 : C0 (xE x) (mX M) (mS M) 60 0 = 0 ∧ C0 (xE x) (mX M) (mS M) 60 1 = 0 ∧ C0 (xE x) (mX M) (mS M) 72 0 = xE x ∧ C0 (xE x) (mX M) (mS M) 72 1 = 0 ∧ C0 (xE x) (mX M) (mS M) 72 2 = xE x ∧ C0 (xE x) (mX M) (mS M) 72 3 = 0 ∧ C0 (xE x) (mX M) (mS M) 73 0 = mX M ∧ C0 (xE x) (mX M) (mS M) 73 1 = mS M ∧ C0 (xE x) (mX M) (mS M) 74 0 = 0 := by
    refine ⟨?_, ?_, ?_, ?_, ?_, ?_, ?_, ?_, ?_⟩
    all_goals rw [C0_e]; simp
  obtain ⟨c600, c601, c720, c721, c722, c723, c730, c731, c740⟩ := e60
  obtain ⟨g1, g2, g3, g4⟩ := fin_E
  have pe : pd x B 1000 = some (xE x) := rfl
  unfold St StT StV Ls
  rw [c600, c601, c720, c721, c722, c723, c730, c731, c740]
  refine ⟨⟨hE, by omega, rfl, rfl⟩, ⟨fun i hi => ?_, fun i hi hl => ?_, fun i q hl => ?_⟩, ⟨by omega, fun i hi => absurd hi (Nat.not_lt_zero i), fun i j _ hj => absurd hj (Nat.not_lt_zero j)⟩, ⟨?_, ?_, by omega, Or.inl ⟨rfl, rfl⟩, fun j hj => absurd hj (Nat.not_lt_zero j)⟩, ⟨?_, ?_, by omega, Or.inl ⟨rfl, rfl⟩, fun j hj => absurd hj (Nat.not_lt_zero j)⟩, fun _ => rfl, fun a q ha => ?_, fun i d q hi => absurd hi (Nat.not_lt_zero i), fun j q hj => absurd hj (Nat.not_lt_zero j), fun i q hi => ?_, by rw [hJ]; rfl⟩
  · rw [r.kk (by rw [fin_X]; exact hi), fin_K i hi]
  · rw [r.n (by rw [fin_X]; exact hi), fin_N i hi hl]
  · have hb := spt_k hl
    obtain ⟨f1, f2⟩ := fin_P i hb.1 q hb.2 hl
    exact r.pp (by rw [fin_X]; omega) q f1 f2
  · rw [(r.2.2 22 (by rw [fin_X]; omega)).2.2.1 1, g1]; exact pe
  · rw [(r.2.2 22 (by rw [fin_X]; omega)).2.2.2 2, g3]
  · rw [(r.2.2 23 (by rw [fin_X]; omega)).2.2.1 1, g2]; exact pe
  · rw [(r.2.2 23 (by rw [fin_X]; omega)).2.2.2 2, g4]
  · rw [(r.2.2 a (by rw [fin_X]; omega)).2.2.2 q, C0_e]
    congr 1
    by_cases c : q < 25
    · rw [fin_V a (by omega) q c ha]
      unfold vC
      repeat' split
      all_goals first | rfl | omega
    · rw [fin_z a q (by omega)]
      repeat' split
      all_goals first | rfl | omega
  · rw [Nat.add_assoc, (r.2.2 (25 + i) (by rw [fin_X]; omega)).2.2.2 q, W0_e]
    congr 1
    by_cases c : q < 25
    · exact fin_W i hi q c
    · rw [fin_z _ q (by omega)]
      unfold vW
      repeat' split
      all_goals first | rfl | omega
end
