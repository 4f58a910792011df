/-! The law's loop, and the law -/
section
variable {x : Cx} {k B S0 : Nat} {M : Mm}
theorem Lp.dn {n : Nat} (h : Lp x B (n + 1) M) : Lp x B n M := by
  obtain ⟨C, W, h1, h2, h3, h4, h5⟩ := h
  rw [Nat.mul_succ] at h4 h5
  refine ⟨C, W, h1, h2, h3, ?_, ?_⟩
  · clear h5; generalize 620 * n = u at h4 ⊢; omega
  · clear h4; generalize 1300 * n = u at h5 ⊢; omega
theorem stop_t {L p : Nat} (h5 : L < 5 → p = 0) (hL : L ≤ 2560) (hp : p ≤ L) (h : L < p + 5) : ((nI L) - (5 : Int32)) < i32 p := by
  show i32 L - i32 5 < i32 p
  by_cases c : L < 5
  · rw [h5 c, show i32 L - i32 5 = i32 (L + 4294967291) by
      apply Int32.toBitVec_inj.mp
      rw [Int32.toBitVec_sub, i_bv, i_bv, i_bv]
      apply BitVec.eq_of_toNat_eq
      simp only [BitVec.toNat_sub, BitVec.toNat_ofNat]
      omega, i_neg (by omega)]
    omega
  · rw [i_sub (by omega)]
    rw [i_lt (by omega) (by omega)]; omega
theorem stop_f {L p : Nat} (hL : L ≤ 2560) (h : p + 5 ≤ L) : ¬ ((nI L) - (5 : Int32)) < i32 p := by
  show ¬ i32 L - i32 5 < i32 p
  rw [i_sub (by omega), i_lt (by omega) (by omega)]
  omega
theorem law_loop (hk : 5000 ≤ k) {L : Nat} {xs : Nat → Int32} (hL : L ≤ 2560) : ∀ n m p M, n < m → (L < 5 → p = 0) → p ≤ L → L < p + 5 * n + 5 → Lp x B n M → ∃ M9, fL_law_23 x k L xs m B (B + 25) (B + 47) (i32 p) M = some ((1 : Int32), M9) := by
  intro n
  induction n with
  | zero =>
    intro m p M hm h5 hp hlt hl
    obtain ⟨m, rfl⟩ : ∃ m', m = m' + 1 := ⟨m - 1, by omega⟩
    refine ⟨M, ?_⟩
    rw [fL_law_23]
    exact e_ip (stop_t h5 hL hp (by omega)) rfl
  | succ n ih =>
    intro m p M hm h5 hp hlt hl
    obtain ⟨m, rfl⟩ : ∃ m', m = m' + 1 := ⟨m - 1, by omega⟩
    by_cases c : L < p + 5
    · refine ⟨M, ?_⟩
      rw [fL_law_23]
      exact e_ip (stop_t h5 hL hp c) rfl
    · have en : ¬ ((nI L) - (5 : Int32)) < i32 p := stop_f hL (by omega)
      have ei : ¬ (i32 p < 0 ∨ L ≤ (i32 p).toNatClampNeg) := by
        rw [show (0 : Int32) = i32 0 from rfl, i_nat (by omega)]
        intro z
        rcases z with z | z
        · exact i_nn (by omega) z
        · omega
      have go : ∀ M8, Lp x B n M8 → ∃ M9, fL_law_23 x k L xs m B (B + 25) (B + 47) (i32 p + 5) M8 = some ((1 : Int32), M9) := fun M8 l8 => by
        rw [show (5 : Int32) = i32 5 from rfl, i_add]
        exact ih m (p + 5) M8 (by omega) (by omega) (by omega) (by omega) l8
      by_cases o0 : ((xs (i32 p).toNatClampNeg) &&& (31 : Int32)) = (0 : Int32)
      · obtain ⟨M8, e8, l8⟩ := law_open (k := k) (p := p) (xs := xs) (rec := fL_law_23 x k L xs m) hk hL (by omega) hl
        obtain ⟨M9, e9⟩ := go M8 l8
        refine ⟨M9, ?_⟩
        rw [fL_law_23]
        exact e_in en (e_ip ei (e_ip o0 (e8.trans e9)))
      by_cases o1 : ((xs (i32 p).toNatClampNeg) &&& (31 : Int32)) = (1 : Int32)
      · obtain ⟨M8, e8, l8⟩ := law_begin (k := k) (p := p) (xs := xs) (rec := fL_law_23 x k L xs m) hk hL (by omega) hl
        obtain ⟨M9, e9⟩ := go M8 l8
        refine ⟨M9, ?_⟩
        rw [fL_law_23]
        exact e_in en (e_ip ei (e_in o0 (e_ip o1 (e8.trans e9))))
      by_cases o2 : ((xs (i32 p).toNatClampNeg) &&& (31 : Int32)) = (2 : Int32)
      · obtain ⟨M8, e8, l8⟩ := law_read (k := k) (p := p) (xs := xs) (rec := fL_law_23 x k L xs m) hk hL (by omega) hl
        obtain ⟨M9, e9⟩ := go M8 l8
        refine ⟨M9, ?_⟩
        rw [fL_law_23]
        exact e_in en (e_ip ei (e_in o0 (e_in o1 (e_ip o2 (e8.trans e9)))))
      by_cases o3 : ((xs (i32 p).toNatClampNeg) &&& (31 : Int32)) = (3 : Int32)
      · obtain ⟨M8, e8, l8⟩ := law_write (k := k) (p := p) (xs := xs) (rec := fL_law_23 x k L xs m) hk hL (by omega) hl
        obtain ⟨M9, e9⟩ := go M8 l8
        refine ⟨M9, ?_⟩
        rw [fL_law_23]
        exact e_in en (e_ip ei (e_in o0 (e_in o1 (e_in o2 (e_ip o3 (e8.trans e9))))))
      by_cases o4 : ((xs (i32 p).toNatClampNeg) &&& (31 : Int32)) = (4 : Int32)
      · obtain ⟨M8, e8, l8⟩ := law_change (k := k) (p := p) (xs := xs) (rec := fL_law_23 x k L xs m) hk hL (by omega) hl
        obtain ⟨M9, e9⟩ := go M8 l8
        refine ⟨M9, ?_⟩
        rw [fL_law_23]
        exact e_in en (e_ip ei (e_in o0 (e_in o1 (e_in o2 (e_in o3 (e_ip o4 (e8.trans e9)))))))
      by_cases o5 : ((xs (i32 p).toNatClampNeg) &&& (31 : Int32)) = (5 : Int32)
      · obtain ⟨M8, e8, l8⟩ := law_count (k := k) (p := p) (xs := xs) (rec := fL_law_23 x k L xs m) hk hL (by omega) hl
        obtain ⟨M9, e9⟩ := go M8 l8
        refine ⟨M9, ?_⟩
        rw [fL_law_23]
        exact e_in en (e_ip ei (e_in o0 (e_in o1 (e_in o2 (e_in o3 (e_in o4 (e_ip o5 (e8.trans e9))))))))
      by_cases o6 : ((xs (i32 p).toNatClampNeg) &&& (31 : Int32)) = (6 : Int32)
      · obtain ⟨M8, e8, l8⟩ := law_commit (k := k) (p := p) (xs := xs) (rec := fL_law_23 x k L xs m) hk hL (by omega) hl
        obtain ⟨M9, e9⟩ := go M8 l8
        refine ⟨M9, ?_⟩
        rw [fL_law_23]
        exact e_in en (e_ip ei (e_in o0 (e_in o1 (e_in o2 (e_in o3 (e_in o4 (e_in o5 (e_ip o6 (e8.trans e9)))))))))
      by_cases o7 : ((xs (i32 p).toNatClampNeg) &&& (31 : Int32)) = (7 : Int32)
      · obtain ⟨M8, e8, l8⟩ := law_abort (k := k) (p := p) (xs := xs) (rec := fL_law_23 x k L xs m) hk hL (by omega) hl
        obtain ⟨M9, e9⟩ := go M8 l8
        refine ⟨M9, ?_⟩
        rw [fL_law_23]
        exact e_in en (e_ip ei (e_in o0 (e_in o1 (e_in o2 (e_in o3 (e_in o4 (e_in o5 (e_in o6 (e_ip o7 (e8.trans e9))))))))))
      by_cases o8 : ((xs (i32 p).toNatClampNeg) &&& (31 : Int32)) = (8 : Int32)
      · obtain ⟨M8, e8, l8⟩ := law_again (k := k) (p := p) (xs := xs) (rec := fL_law_23 x k L xs m) hk hL (by omega) hl
        obtain ⟨M9, e9⟩ := go M8 l8
        refine ⟨M9, ?_⟩
        rw [fL_law_23]
        exact e_in en (e_ip ei (e_in o0 (e_in o1 (e_in o2 (e_in o3 (e_in o4 (e_in o5 (e_in o6 (e_in o7 (e_ip o8 (e8.trans e9)))))))))))
      by_cases o9 : ((xs (i32 p).toNatClampNeg) &&& (31 : Int32)) = (9 : Int32)
      · obtain ⟨M8, e8, l8⟩ := law_deliver (k := k) (p := p) (xs := xs) (rec := fL_law_23 x k L xs m) hk hL (by omega) hl
        obtain ⟨M9, e9⟩ := go M8 l8
        refine ⟨M9, ?_⟩
        rw [fL_law_23]
        exact e_in en (e_ip ei (e_in o0 (e_in o1 (e_in o2 (e_in o3 (e_in o4 (e_in o5 (e_in o6 (e_in o7 (e_in o8 (e_ip o9 (e8.trans e9))))))))))))
      by_cases o10 : ((xs (i32 p).toNatClampNeg) &&& (31 : Int32)) = (10 : Int32)
      · obtain ⟨M8, e8, l8⟩ := law_drop (k := k) (p := p) (xs := xs) (rec := fL_law_23 x k L xs m) hk hL (by omega) hl
        obtain ⟨M9, e9⟩ := go M8 l8
        refine ⟨M9, ?_⟩
        rw [fL_law_23]
        exact e_in en (e_ip ei (e_in o0 (e_in o1 (e_in o2 (e_in o3 (e_in o4 (e_in o5 (e_in o6 (e_in o7 (e_in o8 (e_in o9 (e_ip o10 (e8.trans e9)))))))))))))
      by_cases o11 : ((xs (i32 p).toNatClampNeg) &&& (31 : Int32)) = (11 : Int32)
      · obtain ⟨M8, e8, l8⟩ := law_copy (k := k) (p := p) (xs := xs) (rec := fL_law_23 x k L xs m) hk hL (by omega) hl
        obtain ⟨M9, e9⟩ := go M8 l8
        refine ⟨M9, ?_⟩
        rw [fL_law_23]
        exact e_in en (e_ip ei (e_in o0 (e_in o1 (e_in o2 (e_in o3 (e_in o4 (e_in o5 (e_in o6 (e_in o7 (e_in o8 (e_in o9 (e_in o10 (e_ip o11 (e8.trans e9))))))))))))))
      by_cases o12 : ((xs (i32 p).toNatClampNeg) &&& (31 : Int32)) = (12 : Int32)
      · obtain ⟨M8, e8, l8⟩ := law_byteOf (k := k) (p := p) (xs := xs) (rec := fL_law_23 x k L xs m) hk hL (by omega) hl
        obtain ⟨M9, e9⟩ := go M8 l8
        refine ⟨M9, ?_⟩
        rw [fL_law_23]
        exact e_in en (e_ip ei (e_in o0 (e_in o1 (e_in o2 (e_in o3 (e_in o4 (e_in o5 (e_in o6 (e_in o7 (e_in o8 (e_in o9 (e_in o10 (e_in o11 (e_ip o12 (e8.trans e9)))))))))))))))
      by_cases o13 : ((xs (i32 p).toNatClampNeg) &&& (31 : Int32)) = (13 : Int32)
      · obtain ⟨M8, e8, l8⟩ := law_crash (k := k) (p := p) (xs := xs) (rec := fL_law_23 x k L xs m) hk hL (by omega) hl
        obtain ⟨M9, e9⟩ := go M8 l8
        refine ⟨M9, ?_⟩
        rw [fL_law_23]
        exact e_in en (e_ip ei (e_in o0 (e_in o1 (e_in o2 (e_in o3 (e_in o4 (e_in o5 (e_in o6 (e_in o7 (e_in o8 (e_in o9 (e_in o10 (e_in o11 (e_in o12 (e_ip o13 (e8.trans e9))))))))))))))))
      by_cases o14 : ((xs (i32 p).toNatClampNeg) &&& (31 : Int32)) = (14 : Int32)
      · obtain ⟨M8, e8, l8⟩ := law_restart (k := k) (p := p) (xs := xs) (rec := fL_law_23 x k L xs m) hk hL (by omega) hl
        obtain ⟨M9, e9⟩ := go M8 l8
        refine ⟨M9, ?_⟩
        rw [fL_law_23]
        exact e_in en (e_ip ei (e_in o0 (e_in o1 (e_in o2 (e_in o3 (e_in o4 (e_in o5 (e_in o6 (e_in o7 (e_in o8 (e_in o9 (e_in o10 (e_in o11 (e_in o12 (e_in o13 (e_ip o14 (e8.trans e9)))))))))))))))))
      by_cases o15 : ((xs (i32 p).toNatClampNeg) &&& (31 : Int32)) = (15 : Int32)
      · obtain ⟨M8, e8, l8⟩ := law_about (k := k) (p := p) (xs := xs) (rec := fL_law_23 x k L xs m) hk hL (by omega) hl
        obtain ⟨M9, e9⟩ := go M8 l8
        refine ⟨M9, ?_⟩
        rw [fL_law_23]
        exact e_in en (e_ip ei (e_in o0 (e_in o1 (e_in o2 (e_in o3 (e_in o4 (e_in o5 (e_in o6 (e_in o7 (e_in o8 (e_in o9 (e_in o10 (e_in o11 (e_in o12 (e_in o13 (e_in o14 (e_ip o15 (e8.trans e9))))))))))))))))))
      by_cases o16 : ((xs (i32 p).toNatClampNeg) &&& (31 : Int32)) = (16 : Int32)
      · obtain ⟨M8, e8, l8⟩ := law_vector (k := k) (p := p) (xs := xs) (rec := fL_law_23 x k L xs m) hk hL (by omega) hl
        obtain ⟨M9, e9⟩ := go M8 l8
        refine ⟨M9, ?_⟩
        rw [fL_law_23]
        exact e_in en (e_ip ei (e_in o0 (e_in o1 (e_in o2 (e_in o3 (e_in o4 (e_in o5 (e_in o6 (e_in o7 (e_in o8 (e_in o9 (e_in o10 (e_in o11 (e_in o12 (e_in o13 (e_in o14 (e_in o15 (e_ip o16 (e8.trans e9)))))))))))))))))))
      by_cases o17 : ((xs (i32 p).toNatClampNeg) &&& (31 : Int32)) = (17 : Int32)
      · obtain ⟨M8, e8, l8⟩ := law_value (k := k) (p := p) (xs := xs) (rec := fL_law_23 x k L xs m) hk hL (by omega) hl
        obtain ⟨M9, e9⟩ := go M8 l8
        refine ⟨M9, ?_⟩
        rw [fL_law_23]
        exact e_in en (e_ip ei (e_in o0 (e_in o1 (e_in o2 (e_in o3 (e_in o4 (e_in o5 (e_in o6 (e_in o7 (e_in o8 (e_in o9 (e_in o10 (e_in o11 (e_in o12 (e_in o13 (e_in o14 (e_in o15 (e_in o16 (e_ip o17 (e8.trans e9))))))))))))))))))))
      by_cases o18 : ((xs (i32 p).toNatClampNeg) &&& (31 : Int32)) = (18 : Int32)
      · obtain ⟨M8, e8, l8⟩ := law_locked (k := k) (p := p) (xs := xs) (rec := fL_law_23 x k L xs m) hk hL (by omega) hl
        obtain ⟨M9, e9⟩ := go M8 l8
        refine ⟨M9, ?_⟩
        rw [fL_law_23]
        exact e_in en (e_ip ei (e_in o0 (e_in o1 (e_in o2 (e_in o3 (e_in o4 (e_in o5 (e_in o6 (e_in o7 (e_in o8 (e_in o9 (e_in o10 (e_in o11 (e_in o12 (e_in o13 (e_in o14 (e_in o15 (e_in o16 (e_in o17 (e_ip o18 (e8.trans e9)))))))))))))))))))))
      by_cases o19 : ((xs (i32 p).toNatClampNeg) &&& (31 : Int32)) = (19 : Int32)
      · obtain ⟨M8, e8, l8⟩ := law_total (k := k) (p := p) (xs := xs) (rec := fL_law_23 x k L xs m) hk hL (by omega) hl
        obtain ⟨M9, e9⟩ := go M8 l8
        refine ⟨M9, ?_⟩
        rw [fL_law_23]
        exact e_in en (e_ip ei (e_in o0 (e_in o1 (e_in o2 (e_in o3 (e_in o4 (e_in o5 (e_in o6 (e_in o7 (e_in o8 (e_in o9 (e_in o10 (e_in o11 (e_in o12 (e_in o13 (e_in o14 (e_in o15 (e_in o16 (e_in o17 (e_in o18 (e_ip o19 (e8.trans e9))))))))))))))))))))))
      obtain ⟨M9, e9⟩ := go M hl.dn
      refine ⟨M9, ?_⟩
      rw [fL_law_23]
      exact e_in en (e_ip ei (e_in o0 (e_in o1 (e_in o2 (e_in o3 (e_in o4 (e_in o5 (e_in o6 (e_in o7 (e_in o8 (e_in o9 (e_in o10 (e_in o11 (e_in o12 (e_in o13 (e_in o14 (e_in o15 (e_in o16 (e_in o17 (e_in o18 (e_in o19 (e9))))))))))))))))))))))
theorem law_all {L : Nat} {xs : Nat → Int32} (hL : L ≤ 2560) (hB : mX M = B) (hS : mS M = S0) (hE : xE x < B) (r1 : B + 330000 ≤ xC x) (r2 : S0 + 800000 ≤ xL x) : ∃ M9, fL_law x 6000 L xs M = some ((1 : Int32), M9) := by
  obtain ⟨M3, e3, q3⟩ := g_class (x := x) (k := 6000) (by omega) hB hS (by omega) (by omega)
  have hXc := tCl_X
  have hSc := tCl_S
  have x3 : mX M3 = B + 25 := by rw [q3.1, hXc]
  have s3 : mS M3 ≤ S0 + 2000 := by rw [q3.2.1]; omega
  obtain ⟨M8, e8, q8⟩ := g_model (x := x) (k := 6000) (by omega) q3 (by omega) (by omega)
  have q9 : Rb x B S0 tFin (nO M8 12 1 1) := q8.a 12 1 1
  rw [tFin_e] at q9
  have xf := q9.1
  rw [fin_X] at xf
  have sf := q9.2.1
  have sf2 := fin_S
  have x8 : mX M8 = B + 47 := by have : mX M8 + 1 = B + 48 := xf; omega
  have s8 : mS M8 + 1 ≤ S0 + 40000 := by have : mS M8 + 1 = S0 + tS tFin' := sf; omega
  have hJ : mJ (nO M8 12 1 1) (B + 47) 0 = 0 := by rw [nO_J, if_pos x8.symm]
  have st := st_start q9 hE hJ
  have cq : Cq (Cz (xE x) (mX (nO M8 12 1 1)) (mS (nO M8 12 1 1))) := by
    refine ⟨fun a q hb => ?_, ⟨Nat.le_refl 2, Nat.le_refl 0, Nat.zero_le _, Nat.zero_le _⟩, fun s i hs hi => ?_⟩
    · unfold Cz
      by_cases z : a = 0 ∧ q = 4
      · rw [if_pos z, z.1, z.2]; decide
      · rw [if_neg z]
        by_cases z2 : a = 72 ∨ a = 73
        · rcases z2 with z2 | z2 <;> subst z2 <;> exact absurd rfl hb
        · rw [if_neg (by omega), if_neg (by omega), if_neg (by omega)]; omega
    · have : Cz (xE x) (mX (nO M8 12 1 1)) (mS (nO M8 12 1 1)) (2 + 4 * s) 4 = 0 := by
        unfold Cz
        rw [if_neg (by omega), if_neg (by omega), if_neg (by omega), if_neg (by omega)]
      omega
  have rl : Rl (C0 (xE x) (mX (nO M8 12 1 1)) (mS (nO M8 12 1 1))) (wBegins Wz 2) := by
    refine rl_open cq (by omega) (by omega) (fun s hs => ⟨⟨?_, ?_, fun j h0 h4 => ?_⟩, fun j => ?_, fun q => ?_, fun j => ?_⟩) (fun a j ha => ?_) Wz
    all_goals unfold Dz
    · rw [if_pos (by omega)]
    · rw [if_neg (by omega), if_neg (by omega)]; unfold Cz; rw [if_neg (by omega), if_neg (by omega), if_neg (by omega), if_neg (by omega)]
    · rw [if_neg (by omega), if_neg (by omega)]
    · rw [if_neg (by omega), if_neg (by omega)]
      unfold Cz
      rw [if_neg (by omega), if_neg (by omega), if_neg (by omega), if_neg (by omega)]
      split <;> rfl
    · rw [if_neg (by omega)]
      by_cases z : q < 20
      · rw [if_pos (by omega), if_pos z]
      · rw [if_neg (by omega), if_neg z]
    · rw [if_neg (by omega), if_neg (by omega)]
    · rw [if_neg (by omega), if_neg (by omega)]
  have bz : Bd Wz := by
    refine ⟨by decide, fun i j hi => ?_⟩
    have e : Wz i j = 0 := by unfold Wz; rw [if_neg (by omega)]
    rw [e]
    unfold bd
    split <;> omega
  have iv : Inv (wBegins Wz 2) := inv_open bz (fun j hj => by unfold Wz; rw [if_neg (by omega)]) (by omega) (by omega)
  have lp : Lp x B 512 (nO M8 12 1 1) := by
    refine ⟨_, _, st, rl, iv, ?_, ?_⟩
    · unfold pX
      rw [C0_e, C0_e]
      show mX (nO M8 12 1 1) + 2 * (300 - 0) + 620 * 512 + 800 ≤ xC x
      omega
    · unfold pZ
      rw [C0_e, C0_e, C0_e, C0_e]
      show mS (nO M8 12 1 1) + 4 * (300 - 0) + 4 * (600 - 0) + 4 * (600 - 0) + 1300 * 512 + 1700 ≤ xL x
      have : mS (nO M8 12 1 1) = mS M8 + 1 := rfl
      omega
  obtain ⟨M9, e9⟩ := law_loop (x := x) (k := 6000) (xs := xs) (by omega) hL 512 6000 0 _ (by omega) (fun _ => rfl) (by omega) (by omega) lp
  refine ⟨M9, ?_⟩
  unfold fL_law
  simp only [lits]
  rw [hB]
  refine e_ip ⟨by omega, by rw [hS]; omega⟩ (e_o2 rfl e3 ?_)
  rw [x3]
  refine e_ip ⟨by omega, by omega⟩ (e_o2 rfl e8 ?_)
  rw [x8]
  exact e_ip ⟨by decide, by omega, by omega, by omega⟩ e9
end
