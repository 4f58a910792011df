/-! The start: the constructors -/
def tE : Tb := (fun _ => 0, fun _ => 0, fun _ _ => 0, fun _ _ => 0, 0, 0)
def tSite (T : Tb) (n : Nat) : Tb := tPt (tA (tPt (tA (tPt (tA (tA T 3 0 5) 8 5 5) n 1 (n + 2)) 8 20 20) n 2 (n + 3)) 8 200 200) n 3 (n + 4)
def tSs : Nat → Tb
  | 0 => tPt (tA (tA tE 5 0 7) 10 5 5) 0 0 2
  | s + 1 => tPt (tSite (tSs s) (2 + 4 * s)) 1 s (3 + 4 * s)
def tL : Tb := tPt (tA (tPt (tPt (tSv (tA (tPt (tPt (tSv (tA (tSs 5) 7 0 3) 22 0 0) 22 1 1000) 0 1 23) 7 0 3) 23 0 0) 23 1 1000) 0 2 24) 1 0 4) 0 3 25
def tC : Nat → Tb
  | 0 => tL
  | s + 1 => tClr (tC s) (2 + 4 * s)
def tCl : Tb := tSv (tSv (tSv (tSv (tSv (tC 5) 23 0 1) 23 2 0) 0 4 2) 0 5 0) 0 6 0
theorem lits : (5 : Int32).toNatClampNeg = 5 ∧ (20 : Int32).toNatClampNeg = 20 ∧ (200 : Int32).toNatClampNeg = 200 ∧ (25 : Int32).toNatClampNeg = 25 ∧ (100 : Int32).toNatClampNeg = 100 ∧ (1000 : Int32).toNatClampNeg = 1000 ∧ (4000 : Int32).toNatClampNeg = 4000 ∧ (1200 : Int32).toNatClampNeg = 1200 ∧ (300 : Int32).toNatClampNeg = 300 ∧ (1 : Int32).toNatClampNeg = 1 ∧ (0 : Int32).toNatClampNeg = 0 := by decide
theorem pd_s (x : Cx) (B j : Nat) (h : j < 900) : some (B + j) = pd x B (j + 1) := by
  unfold pd; rw [if_neg (by omega), if_neg (by omega)]; rfl
theorem tSs_f : ∀ s, s < 5 → tX (tSs s) = 2 + 4 * s ∧ tS (tSs s) ≤ 12 + 230 * s ∧ tK (tSs s) 0 = 5 ∧ tP (tSs s) 0 0 = 2 ∧ tK (tSite (tSs s) (2 + 4 * s)) 1 = 10 ∧ tN (tSite (tSs s) (2 + 4 * s)) 1 = 5 ∧ tK (tSite (tSs s) (2 + 4 * s)) (2 + 4 * s) = 3 ∧ tX (tSite (tSs s) (2 + 4 * s)) = 6 + 4 * s := by decide +kernel
theorem tC_f : ∀ s, s < 5 → tX (tC s) = 25 ∧ tK (tC s) 0 = 5 ∧ tP (tC s) 0 0 = 2 ∧ tK (tC s) 1 = 10 ∧ tN (tC s) 1 = 5 ∧ tP (tC s) 1 s = 3 + 4 * s ∧ tK (tC s) (2 + 4 * s) = 3 ∧ (tP (tC s) (2 + 4 * s) 1 = 2 + 4 * s + 2 ∧ tP (tC s) (2 + 4 * s) 2 = 2 + 4 * s + 3) ∧ (tK (tC s) (2 + 4 * s + 1) = 8 ∧ tK (tC s) (2 + 4 * s + 2) = 8) ∧ (tN (tC s) (2 + 4 * s + 1) = 5 ∧ tN (tC s) (2 + 4 * s + 2) = 20) := by decide +kernel
section
variable {x : Cx} {k B S0 : Nat} {T : Tb} {M : Mm}
theorem g_site {n : Nat} (r : Rb x B S0 T M) (hn : tX T = n) (h9 : n < 800) (r1 : B + n + 4 ≤ xC x) (r2 : S0 + tS T + 230 ≤ xL x) : ∃ M', fX2_init x k (B + n) (nO M 3 0 5) = some ((), M') ∧ Rb x B S0 (tSite T n) M' := by
  have ra := r.a 3 0 5
  have x0 : mX M = B + n := by rw [r.1, hn]
  have s0 := r.2.1
  have kv : mK (nO M 3 0 5) (B + n) = 3 := by rw [nO_K, x0, if_pos rfl]
  generalize hA : nO M 3 0 5 = A at *
  have xA : mX A = B + (n + 1) := by rw [← hA, nO_X]; omega
  have sA' : mS A = S0 + tS T + 5 := by rw [← hA, nO_S]; omega
  have r3 := (ra.a 8 5 5).p n 1 (n + 2) (v := some (mX A)) (by rw [xA]; exact pd_s x B (n + 1) (by omega))
  have k1 : mK (nO A 8 5 5) (B + n) = 3 := by rw [nO_K, if_neg (by omega)]; exact kv
  generalize hC1 : sP (nO A 8 5 5) (B + n) 1 (some (mX A)) = A1 at *
  have xA1 : mX A1 = B + (n + 2) := by rw [← hC1]; show mX A + 1 = _; omega
  have sA1 : mS A1 = S0 + tS T + 10 := by rw [← hC1]; show mS A + 5 = _; omega
  have kv1 : mK A1 (B + n) = 3 := by rw [← hC1]; exact k1
  have r4 := (r3.a 8 20 20).p n 2 (n + 3) (v := some (mX A1)) (by rw [xA1]; exact pd_s x B (n + 2) (by omega))
  have k2 : mK (nO A1 8 20 20) (B + n) = 3 := by rw [nO_K, if_neg (by omega)]; exact kv1
  generalize hC2 : sP (nO A1 8 20 20) (B + n) 2 (some (mX A1)) = A2 at *
  have xA2 : mX A2 = B + (n + 3) := by rw [← hC2]; show mX A1 + 1 = _; omega
  have sA2 : mS A2 = S0 + tS T + 30 := by rw [← hC2]; show mS A1 + 20 = _; omega
  have kv2 : mK A2 (B + n) = 3 := by rw [← hC2]; exact k2
  have r5 := (r4.a 8 200 200).p n 3 (n + 4) (v := some (mX A2)) (by rw [xA2]; exact pd_s x B (n + 3) (by omega))
  have k3 : mK (nO A2 8 200 200) (B + n) = 3 := by rw [nO_K, if_neg (by omega)]; exact kv2
  refine ⟨_, ?_, r5⟩
  unfold fX2_init
  simp only [lits]
  refine e_ip ⟨by decide, by omega, by omega, by omega⟩ (e_ip k1 (e_l1 ?_))
  rw [hC1]
  refine e_ip ⟨by decide, by omega, by omega, by omega⟩ (e_ip k2 (e_l1 ?_))
  rw [hC2]
  exact e_ip ⟨by decide, by omega, by omega, by omega⟩ (e_ip k3 (e_l1 rfl))
theorem g_loop (r1 : B + 30 ≤ xC x) (r2 : S0 + 2000 ≤ xL x) : ∀ n s M, Rb x B S0 (tSs s) M → s ≤ 5 → 5 < n + s → ∃ n' M', fX4_init_14 x k n B (i32 s) M = fX4_init_14 x k (n' + 1) B (i32 5) M' ∧ Rb x B S0 (tSs 5) M' := by
  intro n
  induction n with
  | zero => intro s M _ h1 h2; omega
  | succ n ih =>
    intro s M r hs hn
    by_cases c : 5 ≤ s
    · obtain rfl : s = 5 := by omega
      exact ⟨n, M, rfl, r⟩
    · obtain ⟨f1, f2, f3, f4, f5, f6, f7, f8⟩ := tSs_f s (by omega)
      obtain ⟨M1, e1, r1'⟩ := g_site (k := k) r f1 (by omega) (by omega) (by omega)
      have xM : mX M = B + (2 + 4 * s) := by rw [r.1, f1]
      have sM := r.2.1
      have r2' := r1'.p 1 s (3 + 4 * s) (v := some (B + (2 + 4 * s))) (by rw [show 3 + 4 * s = 2 + 4 * s + 1 by omega]; exact pd_s x B (2 + 4 * s) (by omega))
      obtain ⟨n', M', e2, r3⟩ := ih (s + 1) _ r2' (by omega) (by omega)
      refine ⟨n', M', ?_, r3⟩
      rw [← e2, fX4_init_14]
      have kB0 : mK M B = 5 := (r.kk (i := 0) (by omega)).trans f3
      have pB0 : mP M B 0 = some (B + 1) := r.pp (i := 0) (by omega) 0 f4 (by omega)
      refine e_in (by rw [show (5 : Int32) = i32 5 from rfl, i_le (by omega) (by omega)]; exact c) (e_ip kB0 (e_o1 pB0 (e_ip ⟨by omega, by omega⟩ ?_)))
      rw [xM]
      refine e_o2 rfl e1 (e_ip ⟨(r1'.kk (i := 1) (by omega)).trans f5, (r1'.kk (i := 2 + 4 * s) (by omega)).trans f7, ?_⟩ ?_)
      · rw [r1'.n (i := 1) (by omega), f6, show (0 : Int32) = i32 0 from rfl, i_nat (by omega)]
        intro z
        rcases z with z | z
        · exact i_nn (by omega) z
        · omega
      · rw [i_nat (by omega), show (1 : Int32) = i32 1 from rfl, i_add]
theorem g_list (r : Rb x B S0 T M) {n : Nat} (hn : tX T = n) : ∃ M', fJx4a65c_init_da8c8 x k (B + n) (nO M 7 0 3) = some ((), M') ∧ Rb x B S0 (tPt (tSv (tA T 7 0 3) n 0 0) n 1 1000) M' := by
  have ra := ((r.a 7 0 3).v n 0 0).p n 1 1000 (v := some (xE x)) rfl
  have x0 : mX M = B + n := by rw [r.1, hn]
  have kv : mK (nO M 7 0 3) (B + n) = 7 := by rw [nO_K, x0, if_pos rfl]
  refine ⟨_, ?_, ra⟩
  have e1 : fJxc12de_init_da8c8 x k (B + n) (nO M 7 0 3) = some ((), sV (nO M 7 0 3) (B + n) 0 (i32 0)) := by
    have e0 : fJxa1e45_init_da8c8 x k (B + n) (nO M 7 0 3) = some ((), nO M 7 0 3) := rfl
    unfold fJxc12de_init_da8c8
    exact e_o2 rfl e0 (e_ip kv rfl)
  unfold fJx4a65c_init_da8c8
  exact e_o2 rfl e1 (e_ip kv rfl)
theorem g_fresh (hk : 5000 ≤ k) : ∀ n s M, Rb x B S0 (tC s) M → s ≤ 5 → 5 < n + s → ∃ M', fX4_startAfresh_2 x k n B (i32 2) (i32 s) M = some ((), M') ∧ Rb x B S0 tCl M' := by
  intro n
  induction n with
  | zero => intro s M _ h1 h2; omega
  | succ n ih =>
    intro s M r hs hn
    by_cases c : 5 ≤ s
    · obtain rfl : s = 5 := by omega
      have hX : tX (tC 5) = 25 := by decide +kernel
      have kB0 : mK M B = 5 := (r.kk (i := 0) (by omega)).trans (by decide +kernel)
      have p2 : mP M B 2 = some (B + 23) := r.pp (i := 0) (by omega) 2 (by decide +kernel) (by omega)
      have k7 : mK M (B + 23) = 7 := (r.kk (i := 23) (by omega)).trans (by decide +kernel)
      have p1 : mP M (B + 23) 1 = some (xE x) := by rw [(r.2.2 23 (by omega)).2.2.1 1, show tP (tC 5) 23 1 = 1000 by decide +kernel]; rfl
      have v0 : mV M (B + 23) 0 = i32 0 := by rw [(r.2.2 23 (by omega)).2.2.2 0, show tV (tC 5) 23 0 = 0 by decide +kernel]
      have v2 : mV M (B + 23) 2 = i32 0 := by rw [(r.2.2 23 (by omega)).2.2.2 2, show tV (tC 5) 23 2 = 0 by decide +kernel]
      have r5 := ((((r.v 23 0 1).v 23 2 0).v 0 4 2).v 0 5 0).v 0 6 0
      have e1 : fJx4a65c_clear_da8c8 x k (B + 23) M = some ((), sV (sV M (B + 23) 0 (i32 1)) (B + 23) 2 (i32 0)) := by
        obtain ⟨k', rfl⟩ : ∃ k', k = k' + 1 := ⟨k - 1, by omega⟩
        unfold fJx4a65c_clear_da8c8
        rw [v0, show i32 0 + (1 : Int32) = i32 1 from rfl]
        have v2' : mV (sV M (B + 23) 0 (i32 1)) (B + 23) 2 = i32 0 := by rw [sV_V, if_neg (by omega)]; exact v2
        refine e_ip k7 (e_ip k7 (e_ip k7 (e_o1 p1 (e_ip k7 (e_ip k7 ?_)))))
        rw [v2', fJx4a65c_clear_da8c8_27]
        exact e_ip (by decide) rfl
      refine ⟨_, ?_, r5⟩
      rw [fX4_startAfresh_2]
      exact e_ip (by decide) (e_ip kB0 (e_o1 p2 (e_ip k7 (e_o2 rfl e1 (e_ip kB0 (e_ip kB0 (e_ip kB0 rfl)))))))
    · obtain ⟨f1, f2, f3, f4, f5, f6, f7, f8, f9, f10⟩ := tC_f s (by omega)
      obtain ⟨M1, e1, r1⟩ := g_clr (k := k) hk r (s := 2 + 4 * s) (by omega) f7 f8 (by omega) f9 f10
      obtain ⟨M2, e2, r2⟩ := ih (s + 1) M1 r1 (by omega) (by omega)
      refine ⟨M2, ?_, r2⟩
      have kB0 : mK M B = 5 := (r.kk (i := 0) (by omega)).trans f2
      have pB0 : mP M B 0 = some (B + 1) := r.pp (i := 0) (by omega) 0 f3 (by omega)
      have k1 : mK M (B + 1) = 10 := (r.kk (i := 1) (by omega)).trans f4
      have ps : mP M (B + 1) s = some (B + (2 + 4 * s)) := r.pp (i := 1) (by omega) s (by rw [f6]; omega) (by omega)
      have k3 : mK M (B + (2 + 4 * s)) = 3 := (r.kk (by omega)).trans f7
      rw [← e2, fX4_startAfresh_2]
      refine e_in (by rw [show (5 : Int32) = i32 5 from rfl, i_le (by omega) (by omega)]; exact c) (e_ip kB0 (e_o1 pB0 (e_ip ⟨Or.inl k1, ?_⟩ ?_)))
      · rw [r.n (i := 1) (by omega), f5, show (0 : Int32) = i32 0 from rfl, i_nat (by omega)]
        intro z
        rcases z with z | z
        · exact i_nn (by omega) z
        · omega
      · rw [i_nat (by omega)]
        refine e_o1 ps (e_ip k3 (e_o2 rfl e1 ?_))
        rw [show (1 : Int32) = i32 1 from rfl, i_add]
/-- the class is made -/
theorem g_class (hk : 5000 ≤ k) (hB : mX M = B) (hS : mS M = S0) (r1 : B + 30 ≤ xC x) (r2 : S0 + 2000 ≤ xL x) : ∃ M', fX4_init x k B (nO M 5 0 7) = some ((), M') ∧ Rb x B S0 tCl M' := by
  have q0 : Rb x B S0 tE M := ⟨by rw [hB]; rfl, by rw [hS]; rfl, fun i hi => absurd hi (Nat.not_lt_zero i)⟩
  have q1 := q0.a 5 0 7
  have x1 : mX (nO M 5 0 7) = B + 1 := by rw [nO_X, hB]
  have s1 : mS (nO M 5 0 7) = S0 + 7 := by rw [nO_S, hS]
  have q2 := (q1.a 10 5 5).p 0 0 2 (v := some (mX (nO M 5 0 7))) (by rw [x1]; exact pd_s x B 1 (by omega))
  have kk1 : mK (nO (nO M 5 0 7) 10 5 5) B = 5 := by rw [nO_K, x1, if_neg (by omega), nO_K, hB, if_pos rfl]
  obtain ⟨n', M3, e3, r3⟩ := g_loop (k := k) r1 r2 k 0 _ q2 (by omega) (by omega)
  have hX5 : tX (tSs 5) = 22 := by decide +kernel
  have hS5 : tS (tSs 5) ≤ 1200 := by decide +kernel
  have xM3 : mX M3 = B + 22 := by rw [r3.1, hX5]
  have sM3 := r3.2.1
  obtain ⟨M4, e4, r4⟩ := g_list (k := k) r3 hX5
  have r5 := r4.p 0 1 23 (v := some (mX M3)) (by rw [xM3]; exact pd_s x B 22 (by omega))
  have k4 : mK M4 B = 5 := (r4.kk (i := 0) (by decide +kernel)).trans (by decide +kernel)
  have xM5 : mX (sP M4 B 1 (some (mX M3))) = B + 23 := by
    have := r5.1
    rw [show tX (tPt (tPt (tSv (tA (tSs 5) 7 0 3) 22 0 0) 22 1 1000) 0 1 23) = 23 by decide +kernel] at this
    exact this
  have sM5 : mS (sP M4 B 1 (some (mX M3))) ≤ S0 + 1300 := by
    have := r5.2.1
    rw [show tS (tPt (tPt (tSv (tA (tSs 5) 7 0 3) 22 0 0) 22 1 1000) 0 1 23) = tS (tSs 5) + 3 from rfl] at this
    have h' : mS (sP M4 B 1 (some (mX M3))) = S0 + (tS (tSs 5) + 3) := this
    omega
  have hX6 : tX (tPt (tPt (tSv (tA (tSs 5) 7 0 3) 22 0 0) 22 1 1000) 0 1 23) = 23 := by decide +kernel
  have r5' : Rb x B S0 (tPt (tPt (tSv (tA (tSs 5) 7 0 3) 22 0 0) 22 1 1000) 0 1 23) (sP M4 B 1 (some (mX M3))) := r5
  generalize hM5 : sP M4 B 1 (some (mX M3)) = M5 at *
  obtain ⟨M6, e6, r6⟩ := g_list (k := k) r5' hX6
  have k6 : mK M6 B = 5 := (r6.kk (i := 0) (by decide +kernel)).trans (by decide +kernel)
  have r7 := r6.p 0 2 24 (v := some (mX M5)) (by rw [xM5]; exact pd_s x B 23 (by omega))
  have r7' : Rb x B S0 (tPt (tPt (tSv (tA (tPt (tPt (tSv (tA (tSs 5) 7 0 3) 22 0 0) 22 1 1000) 0 1 23) 7 0 3) 23 0 0) 23 1 1000) 0 2 24) (sP M6 B 2 (some (mX M5))) := r7
  have xM7 : mX (sP M6 B 2 (some (mX M5))) = B + 24 := by
    have := r7'.1
    rw [show tX (tPt (tPt (tSv (tA (tPt (tPt (tSv (tA (tSs 5) 7 0 3) 22 0 0) 22 1 1000) 0 1 23) 7 0 3) 23 0 0) 23 1 1000) 0 2 24) = 24 by decide +kernel] at this
    exact this
  have sM7 : mS (sP M6 B 2 (some (mX M5))) ≤ S0 + 1400 := by
    have := r7'.2.1
    have e : tS (tPt (tPt (tSv (tA (tPt (tPt (tSv (tA (tSs 5) 7 0 3) 22 0 0) 22 1 1000) 0 1 23) 7 0 3) 23 0 0) 23 1 1000) 0 2 24) = tS (tSs 5) + 3 + 3 := rfl
    omega
  generalize hM7 : sP M6 B 2 (some (mX M5)) = M7 at *
  have r8 := (r7'.a 1 0 4).p 0 3 25 (v := some (mX M7)) (by rw [xM7]; exact pd_s x B 24 (by omega))
  have k7 : mK M7 B = 5 := (r7'.kk (i := 0) (by decide +kernel)).trans (by decide +kernel)
  have k8 : mK (nO M7 1 0 4) B = 5 := by rw [nO_K, if_neg (by omega)]; exact k7
  obtain ⟨M9, e9, r9⟩ := g_fresh (k := k) hk k 0 _ r8 (by omega) (by omega)
  refine ⟨M9, ?_, r9⟩
  have e9' : fX4_startAfresh x k B (2 : Int32) (sP (nO M7 1 0 4) B 3 (some (mX M7))) = some ((), M9) := e9
  have e0 : fX0_init x k (mX M7) (nO M7 1 0 4) = some ((), nO M7 1 0 4) := rfl
  rw [← xM3] at e4
  rw [← xM5] at e6
  unfold fX4_init
  simp only [lits]
  refine e_ip ⟨by decide, by omega, by omega, by omega⟩ (e_ip kk1 (e_l1 ?_))
  refine Eq.trans e3 ?_
  rw [fX4_init_14]
  refine e_ip (by decide) (e_ip ⟨by omega, by omega⟩ (e_o2 rfl e4 (e_ip k4 ?_)))
  rw [hM5]
  refine e_ip ⟨by omega, by omega⟩ (e_o2 rfl e6 (e_ip k6 ?_))
  rw [hM7]
  exact e_ip ⟨by omega, by omega⟩ (e_o2 rfl e0 (e_ip k8 (e_l1 (e_ip k8 (e_o2 rfl e9' rfl)))))

/-- the reference is made -/
def tRw : List (Nat × Nat × Nat × Nat) → Tb → Nat → Tb
  | [], T, _ => T
  | (sl, κ, c, _) :: l, T, p => tRw l (tPt (tA T κ c c) 25 sl (p + 1)) (p + 1)
def rowsF (x : Cx) (k v : Nat) : List (Nat × Nat × Nat × Nat) → Mm → Option (Unit × Mm)
  | [], A => if mK A v = 6 then ob2 (fX5_begins x k v (2 : Int32) A) (fun _ M97 => some ((), M97)) else none
  | (sl, κ, c, w) :: l, A => if ¬ (i32 c) < 0 ∧ (i32 c).toNatClampNeg * w ≤ 536870912 ∧ mX A + 1 ≤ xC x ∧ mS A + (i32 c).toNatClampNeg ≤ xL x then if mK (nO A κ (i32 c).toNatClampNeg (i32 c).toNatClampNeg) v = 6 then rowsF x k v l (sP (nO A κ (i32 c).toNatClampNeg (i32 c).toNatClampNeg) v sl (some (mX A))) else none else none
def rws : List (Nat × Nat × Nat × Nat) := [(1, 8, 25, 4), (2, 9, 5, 1), (3, 8, 100, 4), (6, 8, 200, 4), (7, 8, 200, 4), (8, 8, 200, 4), (9, 8, 1000, 4), (10, 8, 1000, 4), (11, 9, 1000, 1), (12, 9, 1000, 1), (13, 9, 1000, 1), (14, 9, 1000, 1), (15, 9, 4000, 1), (16, 8, 4000, 4), (17, 8, 4000, 4), (18, 8, 4000, 4), (19, 8, 200, 4), (20, 9, 200, 1), (21, 9, 200, 1), (22, 8, 1200, 4), (25, 8, 300, 4)]
def tMd : Tb := tFl (tFl (tFl (tSv (tSv (tSv (tSv (tSv (tRw rws (tSv (tA tCl 6 0 28) 25 0 2) 26) 25 0 2) 25 4 0) 25 5 0) 25 23 0) 25 24 0) 26 0 25 0) 27 0 5 0) 28 0 100 4294967295
theorem init_rows {v : Nat} : fX5_init x k v M = if mK M v = 6 then rowsF x k v rws (sV M v 0 (2 : Int32)) else none := by
  unfold fX5_init
  rfl
theorem rows_ok : ∀ (l : List (Nat × Nat × Nat × Nat)) (T : Tb) (A : Mm) (i : Nat), (∀ e, e ∈ l → e.2.2.1 ≤ 4000 ∧ e.2.2.2 ≤ 4) → Rb x B S0 T A → tX T = i → 25 < i → i + l.length < 800 → tK T 25 = 6 → B + i + l.length ≤ xC x → S0 + tS T + 4000 * l.length ≤ xL x → ∃ A', rowsF x k (B + 25) l A = rowsF x k (B + 25) [] A' ∧ Rb x B S0 (tRw l T i) A'
  | [], T, A, i, _, r, _, _, _, _, _, _ => ⟨A, rfl, r⟩
  | (sl, κ, c, w) :: l, T, A, i, hl, r, hi, h25, h8, k6, r1, r2 => by
    have hc := hl (sl, κ, c, w) (List.mem_cons_self ..)
    dsimp only at hc
    rw [List.length_cons] at h8 r1 r2
    have x0 : mX A = B + i := by rw [r.1, hi]
    have s0 := r.2.1
    have ra := r.a κ c c
    have rp := ra.p 25 sl (i + 1) (v := some (mX A)) (by rw [x0]; exact pd_s x B i (by omega))
    have kf : mK (nO A κ c c) (B + 25) = 6 := by rw [nO_K, if_neg (by omega), r.kk (by omega)]; exact k6
    have k6' : tK (tPt (tA T κ c c) 25 sl (i + 1)) 25 = 6 := by
      show (if 25 = tX T then κ else tK T 25) = 6
      rw [if_neg (by omega)]; exact k6
    obtain ⟨A', e, r'⟩ := rows_ok l (tPt (tA T κ c c) 25 sl (i + 1)) _ (i + 1) (fun e he => hl e (List.mem_cons_of_mem _ he)) rp (by show tX T + 1 = _; omega) (by omega) (by omega) k6' (by omega) (by show S0 + (tS T + c) + _ ≤ _; omega)
    refine ⟨A', ?_, r'⟩
    rw [← e, rowsF, i_nat (by omega)]
    refine e_ip ⟨i_nn (by omega), ?_, by omega, by omega⟩ (e_ip kf rfl)
    have : c * w ≤ 4000 * 4 := Nat.mul_le_mul hc.1 hc.2
    omega
theorem tCl_X : tX tCl = 25 := by decide +kernel
theorem tCl_S : tS tCl ≤ 2000 := by decide +kernel
theorem tCl_K : tK (tSv (tA tCl 6 0 28) 25 0 2) 25 = 6 := by decide +kernel
theorem rws_ok : ∀ e, e ∈ rws → e.2.2.1 ≤ 4000 ∧ e.2.2.2 ≤ 4 := by decide
theorem tMd_f : tX (tRw rws (tSv (tA tCl 6 0 28) 25 0 2) 26) = 47 ∧ tK (tRw rws (tSv (tA tCl 6 0 28) 25 0 2) 26) 25 = 6 ∧ (tP (tRw rws (tSv (tA tCl 6 0 28) 25 0 2) 26) 25 1 = 27 ∧ tP (tRw rws (tSv (tA tCl 6 0 28) 25 0 2) 26) 25 2 = 28 ∧ tP (tRw rws (tSv (tA tCl 6 0 28) 25 0 2) 26) 25 3 = 29) ∧ (tK (tRw rws (tSv (tA tCl 6 0 28) 25 0 2) 26) 26 = 8 ∧ tK (tRw rws (tSv (tA tCl 6 0 28) 25 0 2) 26) 27 = 9 ∧ tK (tRw rws (tSv (tA tCl 6 0 28) 25 0 2) 26) 28 = 8) ∧ (tN (tRw rws (tSv (tA tCl 6 0 28) 25 0 2) 26) 26 = 25 ∧ tN (tRw rws (tSv (tA tCl 6 0 28) 25 0 2) 26) 27 = 5 ∧ tN (tRw rws (tSv (tA tCl 6 0 28) 25 0 2) 26) 28 = 100) := by decide +kernel
theorem g_model0 (hk : 5000 ≤ k) {T0 T1 : Tb} (hT : tRw rws (tSv (tA T0 6 0 28) 25 0 2) 26 = T1) (hXc : tX T0 = 25) (hSc : tS T0 ≤ 2000) (g1 : tX T1 = 47) (g2 : tK T1 25 = 6) (g3 : tP T1 25 1 = 27 ∧ tP T1 25 2 = 28 ∧ tP T1 25 3 = 29) (g4 : tK T1 26 = 8 ∧ tK T1 27 = 9 ∧ tK T1 28 = 8) (g5 : tN T1 26 = 25 ∧ tN T1 27 = 5 ∧ tN T1 28 = 100) (r : Rb x B S0 T0 M) (r1 : B + 60 ≤ xC x) (r2 : S0 + 100000 ≤ xL x) : ∃ M', fX5_init x k (B + 25) (nO M 6 0 28) = some ((), M') ∧ Rb x B S0 (tFl (tFl (tFl (tSv (tSv (tSv (tSv (tSv T1 25 0 2) 25 4 0) 25 5 0) 25 23 0) 25 24 0) 26 0 25 0) 27 0 5 0) 28 0 100 4294967295) M' := by
  have xM : mX M = B + 25 := by rw [r.1, hXc]
  have kv0 : mK (nO M 6 0 28) (B + 25) = 6 := by rw [nO_K, xM, if_pos rfl]
  have q0 := (r.a 6 0 28).v 25 0 2
  have hKc : tK (tSv (tA T0 6 0 28) 25 0 2) 25 = 6 := by
    show (if 25 = tX T0 then 6 else _) = 6
    rw [hXc, if_pos rfl]
  have hX2 : tX (tSv (tA T0 6 0 28) 25 0 2) = 26 := by show tX T0 + 1 = 26; rw [hXc]
  have hS2 : tS (tSv (tA T0 6 0 28) 25 0 2) = tS T0 + 28 := rfl
  have ll : rws.length = 21 := rfl
  obtain ⟨A, e1, q1⟩ := rows_ok (k := k) rws _ _ 26 rws_ok q0 hX2 (by omega) (by rw [ll]; omega) hKc (by rw [ll]; omega) (by rw [ll, hS2]; omega)
  rw [hT] at q1
  have w1 := ((((q1.v 25 0 2).v 25 4 0).v 25 5 0).v 25 23 0).v 25 24 0
  have kA : mK A (B + 25) = 6 := (q1.kk (by rw [g1]; omega)).trans g2
  obtain ⟨M9, e9, r9⟩ := g_bg27 (k := k) (s := 25) (r1 := 26) (r2 := 27) (r3 := 28) hk k 0 _ _ w1 (by show 25 < tX T1 ∧ 26 < tX T1 ∧ 27 < tX T1 ∧ 28 < tX T1; rw [g1]; omega) g2 g3 (by omega) g4 g5 (by omega) (by omega)
  refine ⟨M9, ?_, r9⟩
  have e8 : fX5_begins x k (B + 25) (2 : Int32) A = some ((), M9) := by
    unfold fX5_begins
    exact e_ip kA (e_ip kA (e_ip kA (e_ip kA (e_l1 (e_ip kA e9)))))
  rw [init_rows]
  refine e_ip kv0 (Eq.trans e1 ?_)
  rw [rowsF]
  exact e_ip kA (e_o2 rfl e8 rfl)
theorem g_model (hk : 5000 ≤ k) (r : Rb x B S0 tCl M) (r1 : B + 60 ≤ xC x) (r2 : S0 + 100000 ≤ xL x) : ∃ M', fX5_init x k (B + 25) (nO M 6 0 28) = some ((), M') ∧ Rb x B S0 tMd M' :=
  g_model0 hk rfl tCl_X tCl_S tMd_f.1 tMd_f.2.1 tMd_f.2.2.1 tMd_f.2.2.2.1 tMd_f.2.2.2.2 r r1 r2
end
