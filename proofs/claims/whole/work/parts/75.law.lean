/-! The law: call by call -/
theorem lcmp0 (a : Int64) : lg_cmp a a = 0 := by
  unfold lg_cmp
  rw [if_neg (by simp), if_pos rfl]
def Lp (x : Cx) (B n : Nat) (M : Mm) : Prop := ∃ C W, St x B C W M ∧ Rl C W ∧ Inv W ∧ pX C + 620 * n + 800 ≤ xC x ∧ pZ C + 1300 * n + 1700 ≤ xL x
theorem rl_74 {C C2 W : Ab} (r : Rl C W) (f : ∀ a q, a ≠ 74 → C2 a q = C a q) : Rl C2 W := by
  refine rl_let r (fun a j ha => Or.inl (f _ _ (by omega))) (f _ _ (by omega)) (fun _ _ _ _ => rfl) ⟨rfl, rfl, rfl⟩ ?_ ?_ r.b.2.2.1 (fun j k hj hk => ?_)
  · rw [f _ _ (by omega)]; exact r.s.2.2.1
  · rw [f _ _ (by omega)]; exact r.s.2.2.2
  · rw [f _ _ (by omega)]; exact r.l j k hj hk
theorem e_Hi {α β : Type} {q : Option ((Nat ⊕ α) × Mm)} {c : Nat} {M : Mm} {g : α → Mm → Option β} {k : Nat → Mm → Option β} {r : Option β} (h : q = some (.inl c, M)) (hk : k c M = r) : obH q g k = r := by rw [h]; exact hk
theorem e_Hr {α β : Type} {q : Option ((Nat ⊕ α) × Mm)} {v : α} {M : Mm} {g : α → Mm → Option β} {k : Nat → Mm → Option β} {r : Option β} (h : q = some (.inr v, M)) (hk : g v M = r) : obH q g k = r := by rw [h]; exact hk
section
variable {x : Cx} {k B n : Nat} {C W : Ab} {M : Mm}
theorem law_step {α : Type} {e : Nat} {fc : Mm → Option ((Nat ⊕ α) × Mm)} {fm : Mm → Option (α × Mm)} (R : α → Nat → Prop) (OK : α → Mm → Option (Int32 × Mm)) (TH : Nat → Mm → Option (Int32 × Mm)) (s : SimW x B e fc fm C W M) (h : St x B C W M) (hx : pX C + 620 * (n + 1) + 800 ≤ xC x) (hz : pZ C + 1300 * (n + 1) + 1700 ≤ xL x)
    (hOK : ∀ v C' M2, St x B C' W M2 → ∃ C2 M3, OK v M2 = some (i32 0, M3) ∧ St x B C2 W M3 ∧ (∀ a q, a ≠ 74 → C2 a q = C' a q) ∧ R v (C2 74 0))
    (hTH : ∀ c M2, (c = 1 ∨ c = 2 ∧ e = 2) → mX M2 + 1 ≤ xC x → mS M2 + 6 ≤ xL x → TH c M2 = some (i32 c, sX M2 (mX M2 + 1) (mS M2 + 6))) :
    ∃ c M3 rr M8, c ≤ 2 ∧ (if mK M B = 5 then obH (fc M) OK TH else none) = some (i32 c, M3) ∧ mK M3 (B + 25) = 6 ∧ fm M3 = some (rr, M8) ∧ mK M8 (B + 25) = 6 ∧ fX5_thrown x k (B + 25) M8 = some (i32 c, M8) ∧ (c = 0 → ∃ m, mJ M8 (B + 47) 0 = (i32 m).toInt64 ∧ R rr m) ∧ (mK M8 (B + 47) = 12 ∧ mN M8 (B + 47) = 1) ∧ Lp x B n M8 := by
  have hX := h.1
  rw [Nat.mul_succ] at hx hz
  have p1 : C 73 0 ≤ pX C := by unfold pX; omega
  have p2 : C 73 1 ≤ pZ C := by unfold pZ; omega
  have g1 : mX M + 1 ≤ xC x := by generalize 620 * n = u at hx; omega
  have g2 : mS M + 6 ≤ xL x := by generalize 1300 * n = u at hz; omega
  rcases s with ⟨c, hc, e1, W', w27, iv, rl, hm⟩ | ⟨v, C', M', e1, h', ⟨b1, b2⟩, hm⟩
  · have h1 := st_sx h (mX M + 1) (mS M + 6) (by omega)
    obtain ⟨rr, M8, e2, h8⟩ := hm _ _ h1
    refine ⟨c, sX M (mX M + 1) (mS M + 6), rr, M8, by omega, e_ip (kB h) (e_Hi e1 (hTH c M hc g1 g2)), mkM h1, e2, mkM h8, by rw [s_thrown h8, w27], fun z => by omega, ⟨st_k h8 47 (by decide), st_n h8 47 (by decide) (by decide)⟩, ⟨_, W', h8, rl _ _, iv, ?_, ?_⟩⟩
    · generalize 620 * n = u at hx ⊢
      clear hz p1 p2
      unfold pX at hx ⊢
      simp (disch := omega) only [U_ne, U_s]
      omega
    · generalize 1300 * n = u at hz ⊢
      clear hx p1 p2
      unfold pZ at hz ⊢
      simp (disch := omega) only [U_ne, U_s]
      omega
  · obtain ⟨C2, M3, e2, h3, f, hR⟩ := hOK v C' M' h'
    obtain ⟨W', M8, e3, h8, r8, i8, w27⟩ := hm _ _ h3
    refine ⟨0, M3, v, M8, by omega, e_ip (kB h) (e_Hr e1 e2), mkM h3, e3, mkM h8, by rw [s_thrown h8, w27], fun _ => ⟨C2 74 0, st_j h8, hR⟩, ⟨st_k h8 47 (by decide), st_n h8 47 (by decide) (by decide)⟩, ⟨C2, W', h8, rl_74 r8 f, i8, ?_, ?_⟩⟩
    · have : pX C2 = pX C' := by unfold pX; rw [f _ _ (by omega), f _ _ (by omega)]
      clear hz p1 p2
      generalize 620 * n = u at hx ⊢
      omega
    · have : pZ C2 = pZ C' := by unfold pZ; rw [f _ _ (by omega), f _ _ (by omega), f _ _ (by omega), f _ _ (by omega)]
      clear hx p1 p2
      generalize 1300 * n = u at hz ⊢
      omega
/-- what the harness does with an answer -/
def okI (B : Nat) (v : Int32) (M2 : Mm) : Option (Int32 × Mm) := if mK M2 (B + 47) = 12 ∧ ¬ ((0 : Int32) < 0 ∨ mN M2 (B + 47) ≤ ((0 : Int32)).toNatClampNeg) then some ((0 : Int32), (sJ M2 (B + 47) ((0 : Int32)).toNatClampNeg v.toInt64)) else none
theorem ok_int (v : Int32) (C' : Ab) (M2 : Mm) (h : St x B C' W M2) : ∃ C2 M3, okI B v M2 = some (i32 0, M3) ∧ St x B C2 W M3 ∧ (∀ a q, a ≠ 74 → C2 a q = C' a q) ∧ (i32 (C2 74 0)).toInt64 = v.toInt64 := by
  have h1 := st_sj h (nI32 v)
  rw [i_nI] at h1
  refine ⟨_, _, e_ip ⟨st_k h 47 (by decide), ?_⟩ rfl, h1, fun a q ha => U_r _ ha _ _ _, by rw [U_s, i_nI]⟩
  rw [st_n h 47 (by decide) (by decide)]
  decide
def okC (x : Cx) (k B : Nat) (v : Int32) (M2 : Mm) : Option (Int32 × Mm) := if v = 0 then fL_copy_15 x k (B + 47) (0 : Int32) (0 : Int64) M2 else fL_copy_15 x k (B + 47) (0 : Int32) (1 : Int64) M2
theorem ok_copy (v : Int32) (C' : Ab) (M2 : Mm) (h : St x B C' W M2) : ∃ C2 M3, okC x k B v M2 = some (i32 0, M3) ∧ St x B C2 W M3 ∧ (∀ a q, a ≠ 74 → C2 a q = C' a q) ∧ (i32 (C2 74 0)).toInt64 = if v = 0 then 0 else 1 := by
  have nn : ¬ ((0 : Int32) < 0 ∨ mN M2 (B + 47) ≤ ((0 : Int32)).toNatClampNeg) := by
    rw [st_n h 47 (by decide) (by decide)]
    decide
  by_cases c : v = 0
  · have h1 := st_sj h 0
    refine ⟨_, _, e_ip c (e_ip ⟨st_k h 47 (by decide), nn⟩ rfl), h1, fun a q ha => U_r _ ha _ _ _, ?_⟩
    rw [U_s, if_pos c]; rfl
  · have h1 := st_sj h 1
    refine ⟨_, _, e_in c (e_ip ⟨st_k h 47 (by decide), nn⟩ rfl), h1, fun a q ha => U_r _ ha _ _ _, ?_⟩
    rw [U_s, if_neg c]; rfl
theorem th1 (c : Nat) (M2 : Mm) (hc : c = 1 ∨ c = 2 ∧ 1 = 2) (h1 : mX M2 + 1 ≤ xC x) (h2 : mS M2 + 6 ≤ xL x) : (if mX M2 + 1 ≤ xC x ∧ mS M2 + 6 ≤ xL x then if c = 1 then some ((1 : Int32), (sX M2 (mX M2 + 1) (mS M2 + 6))) else none else none) = some (i32 c, sX M2 (mX M2 + 1) (mS M2 + 6)) := by
  have : c = 1 := by omega
  subst this
  exact e_ip ⟨h1, h2⟩ (e_ip rfl rfl)
theorem th2 (c : Nat) (M2 : Mm) (hc : c = 1 ∨ c = 2 ∧ 2 = 2) (h1 : mX M2 + 1 ≤ xC x) (h2 : mS M2 + 6 ≤ xL x) : (if mX M2 + 1 ≤ xC x ∧ mS M2 + 6 ≤ xL x then if c = 1 then some ((1 : Int32), (sX M2 (mX M2 + 1) (mS M2 + 6))) else if c = 2 then some ((2 : Int32), (sX M2 (mX M2 + 1) (mS M2 + 6))) else none else none) = some (i32 c, sX M2 (mX M2 + 1) (mS M2 + 6)) := by
  rcases hc with hc | hc
  · subst hc
    exact e_ip ⟨h1, h2⟩ (e_ip rfl rfl)
  · obtain ⟨rfl, -⟩ := hc
    exact e_ip ⟨h1, h2⟩ (e_in (by omega) (e_ip rfl rfl))
theorem ix {L p d : Nat} (h : p + d < L) (hL : L ≤ 2560) : ¬ ((i32 p + i32 d) < 0 ∨ L ≤ p + d) := by
  rw [i_add, show (0 : Int32) = i32 0 from rfl]
  intro z
  rcases z with z | z
  · exact i_nn (by omega) z
  · omega
theorem Lp.ry {M : Mm} (h : Lp x B (n + 1) M) : ∃ C W, St x B C W M ∧ Rl C W ∧ Inv W ∧ Ry x C ∧ pX C + 620 * (n + 1) + 800 ≤ xC x ∧ pZ C + 1300 * (n + 1) + 1700 ≤ xL x := by
  obtain ⟨C, W, h1, h2, h3, h4, h5⟩ := h
  refine ⟨C, W, h1, h2, h3, ⟨?_, ?_⟩, h4, h5⟩
  · clear h5; generalize 620 * (n + 1) = u at h4; omega
  · clear h4; generalize 1300 * (n + 1) = u at h5; omega
theorem law_open (hk : 5000 ≤ k) {L p : Nat} {xs : Nat → Int32} {rec : Nat → Nat → Nat → Int32 → Mm → Option (Int32 × Mm)} (hL : L ≤ 2560) (hp : p + 4 < L) (hl : Lp x B (n + 1) M) : ∃ M8, fL_law_132 x k L xs rec B (B + 25) (B + 47) (i32 p) M = rec B (B + 25) (B + 47) (i32 p + 5) M8 ∧ Lp x B n M8 := by
  obtain ⟨C, W, h, r, i, ry, hx, hz⟩ := hl.ry
  have sm : SimW x B 1 (fX4_open x k B (xs (p + 1))) (fX5_open x k (B + 25) (xs (p + 1))) C W M := by
    have e : ∀ v, i32 (nI32 v) = v := i_nI
    rw [← e (xs (p + 1))]
    exact (sim_open hk h r i ry.rx (nI32_lt _)).w
  obtain ⟨c, M3, rr, M8, c2, q1, k3, q2, k8, q3, hj, ⟨kj, nj⟩, lp⟩ := law_step (k := k) (n := n) (fun _ _ => True) (fun _ M2 => some ((0 : Int32), M2)) (fun c5 M2 => if mX M2 + 1 ≤ xC x ∧ mS M2 + 6 ≤ xL x then if c5 = 1 then some ((1 : Int32), (sX M2 (mX M2 + 1) (mS M2 + 6))) else none else none) sm h hx hz (fun v C' M2 q => ⟨C', M2, rfl, q, fun _ _ _ => rfl, trivial⟩) th1
  have q1' : fL_open x k B (xs (p + 1)) M = some (i32 c, M3) := q1
  refine ⟨M8, ?_, lp⟩
  have ex : ∀ d, d < 5 → (i32 p + i32 d).toNatClampNeg = p + d := fun d hd => by rw [i_add, i_nat (by omega)]
  have a1 := ex 1 (by omega)
  unfold fL_law_132
  rw [show (1 : Int32) = i32 1 from rfl, a1]
  exact e_ip (ix (d := 1) (by omega) hL) (e_o2 rfl q1' (e_ip (ix (d := 1) (by omega) hL) (e_ip k3 (e_o2 rfl q2 (e_ip k8 (e_o2 rfl q3 (e_ip rfl rfl)))))))
theorem law_begin (hk : 5000 ≤ k) {L p : Nat} {xs : Nat → Int32} {rec : Nat → Nat → Nat → Int32 → Mm → Option (Int32 × Mm)} (hL : L ≤ 2560) (hp : p + 4 < L) (hl : Lp x B (n + 1) M) : ∃ M8, fL_law_168 x k L xs rec B (B + 25) (B + 47) (i32 p) M = rec B (B + 25) (B + 47) (i32 p + 5) M8 ∧ Lp x B n M8 := by
  obtain ⟨C, W, h, r, i, ry, hx, hz⟩ := hl.ry
  have sm : SimW x B 2 (fX4_begin x k B (xs (p + 1))) (fX5_begin x k (B + 25) (xs (p + 1))) C W M := by
    have e : ∀ v, i32 (nI32 v) = v := i_nI
    rw [← e (xs (p + 1))]
    exact (sim_begin hk h r i ry (nI32_lt _)).w
  obtain ⟨c, M3, rr, M8, c2, q1, k3, q2, k8, q3, hj, ⟨kj, nj⟩, lp⟩ := law_step (k := k) (n := n) (fun v m => (i32 m).toInt64 = v.toInt64) (okI B) (fun c5 M2 => if mX M2 + 1 ≤ xC x ∧ mS M2 + 6 ≤ xL x then if c5 = 1 then some ((1 : Int32), (sX M2 (mX M2 + 1) (mS M2 + 6))) else if c5 = 2 then some ((2 : Int32), (sX M2 (mX M2 + 1) (mS M2 + 6))) else none else none) sm h hx hz ok_int th2
  have q1' : fL_begin x k B (xs (p + 1)) (B + 47) M = some (i32 c, M3) := q1
  refine ⟨M8, ?_, lp⟩
  have ex : ∀ d, d < 5 → (i32 p + i32 d).toNatClampNeg = p + d := fun d hd => by rw [i_add, i_nat (by omega)]
  have a1 := ex 1 (by omega)
  unfold fL_law_168
  rw [show (1 : Int32) = i32 1 from rfl, a1]
  refine e_ip (ix (d := 1) (by omega) hL) (e_o2 rfl q1' (e_ip (ix (d := 1) (by omega) hL) (e_ip k3 (e_o2 rfl q2 (e_ip k8 (e_o2 rfl q3 (e_ip rfl ?_)))))))
  by_cases c0 : c = 0
  · subst c0
    obtain ⟨m, j1, j2⟩ := hj rfl
    have nn : ¬ ((0 : Int32) < 0 ∨ mN M8 (B + 47) ≤ ((0 : Int32)).toNatClampNeg) := by rw [nj]; decide
    have j3 : mJ M8 (B + 47) 0 = rr.toInt64 := j1.trans j2
    have j4 : lg_cmp (mJ M8 (B + 47) 0) rr.toInt64 = 0 := by rw [j3]; exact lcmp0 _
    exact e_ip rfl (e_ip ⟨kj, nn⟩ (e_ip j4 rfl))
  · exact e_in (by rw [show (0 : Int32) = i32 0 from rfl, i_eq (by omega) (by omega)]; exact c0) rfl
theorem law_read (hk : 5000 ≤ k) {L p : Nat} {xs : Nat → Int32} {rec : Nat → Nat → Nat → Int32 → Mm → Option (Int32 × Mm)} (hL : L ≤ 2560) (hp : p + 4 < L) (hl : Lp x B (n + 1) M) : ∃ M8, fL_law_224 x k L xs rec B (B + 25) (B + 47) (i32 p) M = rec B (B + 25) (B + 47) (i32 p + 5) M8 ∧ Lp x B n M8 := by
  obtain ⟨C, W, h, r, i, ry, hx, hz⟩ := hl.ry
  have sm : SimW x B 2 (fX4_read x k B (xs (p + 1)) (xs (p + 2))) (fX5_read x k (B + 25) (xs (p + 1)) (xs (p + 2))) C W M := by
    have e : ∀ v, i32 (nI32 v) = v := i_nI
    rw [← e (xs (p + 1)), ← e (xs (p + 2))]
    exact (sim_read hk h r i ry.rx (nI32_lt _) (nI32_lt _)).w
  obtain ⟨c, M3, rr, M8, c2, q1, k3, q2, k8, q3, hj, ⟨kj, nj⟩, lp⟩ := law_step (k := k) (n := n) (fun v m => (i32 m).toInt64 = v.toInt64) (okI B) (fun c5 M2 => if mX M2 + 1 ≤ xC x ∧ mS M2 + 6 ≤ xL x then if c5 = 1 then some ((1 : Int32), (sX M2 (mX M2 + 1) (mS M2 + 6))) else if c5 = 2 then some ((2 : Int32), (sX M2 (mX M2 + 1) (mS M2 + 6))) else none else none) sm h hx hz ok_int th2
  have q1' : fL_read x k B (xs (p + 1)) (xs (p + 2)) (B + 47) M = some (i32 c, M3) := q1
  refine ⟨M8, ?_, lp⟩
  have ex : ∀ d, d < 5 → (i32 p + i32 d).toNatClampNeg = p + d := fun d hd => by rw [i_add, i_nat (by omega)]
  have a1 := ex 1 (by omega)
  have a2 := ex 2 (by omega)
  unfold fL_law_224
  rw [show (1 : Int32) = i32 1 from rfl, show (2 : Int32) = i32 2 from rfl, a1, a2]
  refine e_ip (ix (d := 1) (by omega) hL) (e_ip (ix (d := 2) (by omega) hL) (e_o2 rfl q1' (e_ip (ix (d := 1) (by omega) hL) (e_ip (ix (d := 2) (by omega) hL) (e_ip k3 (e_o2 rfl q2 (e_ip k8 (e_o2 rfl q3 (e_ip rfl ?_)))))))))
  by_cases c0 : c = 0
  · subst c0
    obtain ⟨m, j1, j2⟩ := hj rfl
    have nn : ¬ ((0 : Int32) < 0 ∨ mN M8 (B + 47) ≤ ((0 : Int32)).toNatClampNeg) := by rw [nj]; decide
    have j3 : mJ M8 (B + 47) 0 = rr.toInt64 := j1.trans j2
    have j4 : lg_cmp (mJ M8 (B + 47) 0) rr.toInt64 = 0 := by rw [j3]; exact lcmp0 _
    exact e_ip rfl (e_ip ⟨kj, nn⟩ (e_ip j4 rfl))
  · exact e_in (by rw [show (0 : Int32) = i32 0 from rfl, i_eq (by omega) (by omega)]; exact c0) rfl
theorem law_write (hk : 5000 ≤ k) {L p : Nat} {xs : Nat → Int32} {rec : Nat → Nat → Nat → Int32 → Mm → Option (Int32 × Mm)} (hL : L ≤ 2560) (hp : p + 4 < L) (hl : Lp x B (n + 1) M) : ∃ M8, fL_law_292 x k L xs rec B (B + 25) (B + 47) (i32 p) M = rec B (B + 25) (B + 47) (i32 p + 5) M8 ∧ Lp x B n M8 := by
  obtain ⟨C, W, h, r, i, ry, hx, hz⟩ := hl.ry
  have sm : SimW x B 2 (fX4_write x k B (xs (p + 1)) (xs (p + 2)) (xs (p + 3))) (fX5_write x k (B + 25) (xs (p + 1)) (xs (p + 2)) (xs (p + 3))) C W M := by
    have e : ∀ v, i32 (nI32 v) = v := i_nI
    rw [← e (xs (p + 1)), ← e (xs (p + 2)), ← e (xs (p + 3))]
    exact (sim_write hk h r i ry.rx (nI32_lt _) (nI32_lt _) (nI32_lt _)).w
  obtain ⟨c, M3, rr, M8, c2, q1, k3, q2, k8, q3, hj, ⟨kj, nj⟩, lp⟩ := law_step (k := k) (n := n) (fun v m => (i32 m).toInt64 = v.toInt64) (okI B) (fun c5 M2 => if mX M2 + 1 ≤ xC x ∧ mS M2 + 6 ≤ xL x then if c5 = 1 then some ((1 : Int32), (sX M2 (mX M2 + 1) (mS M2 + 6))) else if c5 = 2 then some ((2 : Int32), (sX M2 (mX M2 + 1) (mS M2 + 6))) else none else none) sm h hx hz ok_int th2
  have q1' : fL_write x k B (xs (p + 1)) (xs (p + 2)) (xs (p + 3)) (B + 47) M = some (i32 c, M3) := q1
  refine ⟨M8, ?_, lp⟩
  have ex : ∀ d, d < 5 → (i32 p + i32 d).toNatClampNeg = p + d := fun d hd => by rw [i_add, i_nat (by omega)]
  have a1 := ex 1 (by omega)
  have a2 := ex 2 (by omega)
  have a3 := ex 3 (by omega)
  unfold fL_law_292
  rw [show (1 : Int32) = i32 1 from rfl, show (2 : Int32) = i32 2 from rfl, show (3 : Int32) = i32 3 from rfl, a1, a2, a3]
  refine e_ip (ix (d := 1) (by omega) hL) (e_ip (ix (d := 2) (by omega) hL) (e_ip (ix (d := 3) (by omega) hL) (e_o2 rfl q1' (e_ip (ix (d := 1) (by omega) hL) (e_ip (ix (d := 2) (by omega) hL) (e_ip (ix (d := 3) (by omega) hL) (e_ip k3 (e_o2 rfl q2 (e_ip k8 (e_o2 rfl q3 (e_ip rfl ?_)))))))))))
  by_cases c0 : c = 0
  · subst c0
    obtain ⟨m, j1, j2⟩ := hj rfl
    have nn : ¬ ((0 : Int32) < 0 ∨ mN M8 (B + 47) ≤ ((0 : Int32)).toNatClampNeg) := by rw [nj]; decide
    have j3 : mJ M8 (B + 47) 0 = rr.toInt64 := j1.trans j2
    have j4 : lg_cmp (mJ M8 (B + 47) 0) rr.toInt64 = 0 := by rw [j3]; exact lcmp0 _
    exact e_ip rfl (e_ip ⟨kj, nn⟩ (e_ip j4 rfl))
  · exact e_in (by rw [show (0 : Int32) = i32 0 from rfl, i_eq (by omega) (by omega)]; exact c0) rfl
theorem law_change (hk : 5000 ≤ k) {L p : Nat} {xs : Nat → Int32} {rec : Nat → Nat → Nat → Int32 → Mm → Option (Int32 × Mm)} (hL : L ≤ 2560) (hp : p + 4 < L) (hl : Lp x B (n + 1) M) : ∃ M8, fL_law_372 x k L xs rec B (B + 25) (B + 47) (i32 p) M = rec B (B + 25) (B + 47) (i32 p + 5) M8 ∧ Lp x B n M8 := by
  obtain ⟨C, W, h, r, i, ry, hx, hz⟩ := hl.ry
  have sm : SimW x B 2 (fX4_change x k B (xs (p + 1)) (xs (p + 2)) (xs (p + 3)) (xs (p + 4))) (fX5_change x k (B + 25) (xs (p + 1)) (xs (p + 2)) (xs (p + 3)) (xs (p + 4))) C W M := by
    have e : ∀ v, i32 (nI32 v) = v := i_nI
    rw [← e (xs (p + 1)), ← e (xs (p + 2)), ← e (xs (p + 3)), ← e (xs (p + 4))]
    exact (sim_change h r i ry.rx (nI32_lt _) (nI32_lt _) (nI32_lt _) (nI32_lt _)).w
  obtain ⟨c, M3, rr, M8, c2, q1, k3, q2, k8, q3, hj, ⟨kj, nj⟩, lp⟩ := law_step (k := k) (n := n) (fun v m => (i32 m).toInt64 = v.toInt64) (okI B) (fun c5 M2 => if mX M2 + 1 ≤ xC x ∧ mS M2 + 6 ≤ xL x then if c5 = 1 then some ((1 : Int32), (sX M2 (mX M2 + 1) (mS M2 + 6))) else if c5 = 2 then some ((2 : Int32), (sX M2 (mX M2 + 1) (mS M2 + 6))) else none else none) sm h hx hz ok_int th2
  have q1' : fL_change x k B (xs (p + 1)) (xs (p + 2)) (xs (p + 3)) (xs (p + 4)) (B + 47) M = some (i32 c, M3) := q1
  refine ⟨M8, ?_, lp⟩
  have ex : ∀ d, d < 5 → (i32 p + i32 d).toNatClampNeg = p + d := fun d hd => by rw [i_add, i_nat (by omega)]
  have a1 := ex 1 (by omega)
  have a2 := ex 2 (by omega)
  have a3 := ex 3 (by omega)
  have a4 := ex 4 (by omega)
  unfold fL_law_372
  rw [show (1 : Int32) = i32 1 from rfl, show (2 : Int32) = i32 2 from rfl, show (3 : Int32) = i32 3 from rfl, show (4 : Int32) = i32 4 from rfl, a1, a2, a3, a4]
  refine e_ip (ix (d := 1) (by omega) hL) (e_ip (ix (d := 2) (by omega) hL) (e_ip (ix (d := 3) (by omega) hL) (e_ip (ix (d := 4) (by omega) hL) (e_o2 rfl q1' (e_ip (ix (d := 1) (by omega) hL) (e_ip (ix (d := 2) (by omega) hL) (e_ip (ix (d := 3) (by omega) hL) (e_ip (ix (d := 4) (by omega) hL) (e_ip k3 (e_o2 rfl q2 (e_ip k8 (e_o2 rfl q3 (e_ip rfl ?_)))))))))))))
  by_cases c0 : c = 0
  · subst c0
    obtain ⟨m, j1, j2⟩ := hj rfl
    have nn : ¬ ((0 : Int32) < 0 ∨ mN M8 (B + 47) ≤ ((0 : Int32)).toNatClampNeg) := by rw [nj]; decide
    have j3 : mJ M8 (B + 47) 0 = rr.toInt64 := j1.trans j2
    have j4 : lg_cmp (mJ M8 (B + 47) 0) rr.toInt64 = 0 := by rw [j3]; exact lcmp0 _
    exact e_ip rfl (e_ip ⟨kj, nn⟩ (e_ip j4 rfl))
  · exact e_in (by rw [show (0 : Int32) = i32 0 from rfl, i_eq (by omega) (by omega)]; exact c0) rfl
theorem law_count (hk : 5000 ≤ k) {L p : Nat} {xs : Nat → Int32} {rec : Nat → Nat → Nat → Int32 → Mm → Option (Int32 × Mm)} (hL : L ≤ 2560) (hp : p + 4 < L) (hl : Lp x B (n + 1) M) : ∃ M8, fL_law_464 x k L xs rec B (B + 25) (B + 47) (i32 p) M = rec B (B + 25) (B + 47) (i32 p + 5) M8 ∧ Lp x B n M8 := by
  obtain ⟨C, W, h, r, i, ry, hx, hz⟩ := hl.ry
  have sm : SimW x B 2 (fX4_count x k B (xs (p + 1)) (xs (p + 2)) (xs (p + 3))) (fX5_count x k (B + 25) (xs (p + 1)) (xs (p + 2)) (xs (p + 3))) C W M := by
    have e : ∀ v, i32 (nI32 v) = v := i_nI
    rw [← e (xs (p + 1)), ← e (xs (p + 2)), ← e (xs (p + 3))]
    exact (sim_count hk h r i ry.rx (nI32_lt _) (nI32_lt _) (nI32_lt _)).w
  obtain ⟨c, M3, rr, M8, c2, q1, k3, q2, k8, q3, hj, ⟨kj, nj⟩, lp⟩ := law_step (k := k) (n := n) (fun v m => (i32 m).toInt64 = v.toInt64) (okI B) (fun c5 M2 => if mX M2 + 1 ≤ xC x ∧ mS M2 + 6 ≤ xL x then if c5 = 1 then some ((1 : Int32), (sX M2 (mX M2 + 1) (mS M2 + 6))) else if c5 = 2 then some ((2 : Int32), (sX M2 (mX M2 + 1) (mS M2 + 6))) else none else none) sm h hx hz ok_int th2
  have q1' : fL_count x k B (xs (p + 1)) (xs (p + 2)) (xs (p + 3)) (B + 47) M = some (i32 c, M3) := q1
  refine ⟨M8, ?_, lp⟩
  have ex : ∀ d, d < 5 → (i32 p + i32 d).toNatClampNeg = p + d := fun d hd => by rw [i_add, i_nat (by omega)]
  have a1 := ex 1 (by omega)
  have a2 := ex 2 (by omega)
  have a3 := ex 3 (by omega)
  unfold fL_law_464
  rw [show (1 : Int32) = i32 1 from rfl, show (2 : Int32) = i32 2 from rfl, show (3 : Int32) = i32 3 from rfl, a1, a2, a3]
  refine e_ip (ix (d := 1) (by omega) hL) (e_ip (ix (d := 2) (by omega) hL) (e_ip (ix (d := 3) (by omega) hL) (e_o2 rfl q1' (e_ip (ix (d := 1) (by omega) hL) (e_ip (ix (d := 2) (by omega) hL) (e_ip (ix (d := 3) (by omega) hL) (e_ip k3 (e_o2 rfl q2 (e_ip k8 (e_o2 rfl q3 (e_ip rfl ?_)))))))))))
  by_cases c0 : c = 0
  · subst c0
    obtain ⟨m, j1, j2⟩ := hj rfl
    have nn : ¬ ((0 : Int32) < 0 ∨ mN M8 (B + 47) ≤ ((0 : Int32)).toNatClampNeg) := by rw [nj]; decide
    have j3 : mJ M8 (B + 47) 0 = rr.toInt64 := j1.trans j2
    have j4 : lg_cmp (mJ M8 (B + 47) 0) rr.toInt64 = 0 := by rw [j3]; exact lcmp0 _
    exact e_ip rfl (e_ip ⟨kj, nn⟩ (e_ip j4 rfl))
  · exact e_in (by rw [show (0 : Int32) = i32 0 from rfl, i_eq (by omega) (by omega)]; exact c0) rfl
theorem law_commit (hk : 5000 ≤ k) {L p : Nat} {xs : Nat → Int32} {rec : Nat → Nat → Nat → Int32 → Mm → Option (Int32 × Mm)} (hL : L ≤ 2560) (hp : p + 4 < L) (hl : Lp x B (n + 1) M) : ∃ M8, fL_law_544 x k L xs rec B (B + 25) (B + 47) (i32 p) M = rec B (B + 25) (B + 47) (i32 p + 5) M8 ∧ Lp x B n M8 := by
  obtain ⟨C, W, h, r, i, ry, hx, hz⟩ := hl.ry
  have sm : SimW x B 2 (fX4_commit x k B (xs (p + 1))) (fX5_commit x k (B + 25) (xs (p + 1))) C W M := by
    have e : ∀ v, i32 (nI32 v) = v := i_nI
    rw [← e (xs (p + 1))]
    exact (sim_commit hk h r i ry.rx (nI32_lt _)).w
  obtain ⟨c, M3, rr, M8, c2, q1, k3, q2, k8, q3, hj, ⟨kj, nj⟩, lp⟩ := law_step (k := k) (n := n) (fun v m => (i32 m).toInt64 = v.toInt64) (okI B) (fun c5 M2 => if mX M2 + 1 ≤ xC x ∧ mS M2 + 6 ≤ xL x then if c5 = 1 then some ((1 : Int32), (sX M2 (mX M2 + 1) (mS M2 + 6))) else if c5 = 2 then some ((2 : Int32), (sX M2 (mX M2 + 1) (mS M2 + 6))) else none else none) sm h hx hz ok_int th2
  have q1' : fL_commit x k B (xs (p + 1)) (B + 47) M = some (i32 c, M3) := q1
  refine ⟨M8, ?_, lp⟩
  have ex : ∀ d, d < 5 → (i32 p + i32 d).toNatClampNeg = p + d := fun d hd => by rw [i_add, i_nat (by omega)]
  have a1 := ex 1 (by omega)
  unfold fL_law_544
  rw [show (1 : Int32) = i32 1 from rfl, a1]
  refine e_ip (ix (d := 1) (by omega) hL) (e_o2 rfl q1' (e_ip (ix (d := 1) (by omega) hL) (e_ip k3 (e_o2 rfl q2 (e_ip k8 (e_o2 rfl q3 (e_ip rfl ?_)))))))
  by_cases c0 : c = 0
  · subst c0
    obtain ⟨m, j1, j2⟩ := hj rfl
    have nn : ¬ ((0 : Int32) < 0 ∨ mN M8 (B + 47) ≤ ((0 : Int32)).toNatClampNeg) := by rw [nj]; decide
    have j3 : mJ M8 (B + 47) 0 = rr.toInt64 := j1.trans j2
    have j4 : lg_cmp (mJ M8 (B + 47) 0) rr.toInt64 = 0 := by rw [j3]; exact lcmp0 _
    exact e_ip rfl (e_ip ⟨kj, nn⟩ (e_ip j4 rfl))
  · exact e_in (by rw [show (0 : Int32) = i32 0 from rfl, i_eq (by omega) (by omega)]; exact c0) rfl
theorem law_abort (hk : 5000 ≤ k) {L p : Nat} {xs : Nat → Int32} {rec : Nat → Nat → Nat → Int32 → Mm → Option (Int32 × Mm)} (hL : L ≤ 2560) (hp : p + 4 < L) (hl : Lp x B (n + 1) M) : ∃ M8, fL_law_600 x k L xs rec B (B + 25) (B + 47) (i32 p) M = rec B (B + 25) (B + 47) (i32 p + 5) M8 ∧ Lp x B n M8 := by
  obtain ⟨C, W, h, r, i, ry, hx, hz⟩ := hl.ry
  have sm : SimW x B 2 (fX4_abort x k B (xs (p + 1))) (fX5_abort x k (B + 25) (xs (p + 1))) C W M := by
    have e : ∀ v, i32 (nI32 v) = v := i_nI
    rw [← e (xs (p + 1))]
    exact (sim_abort h r i ry.rx (nI32_lt _)).w
  obtain ⟨c, M3, rr, M8, c2, q1, k3, q2, k8, q3, hj, ⟨kj, nj⟩, lp⟩ := law_step (k := k) (n := n) (fun _ _ => True) (fun _ M2 => some ((0 : Int32), M2)) (fun c5 M2 => if mX M2 + 1 ≤ xC x ∧ mS M2 + 6 ≤ xL x then if c5 = 1 then some ((1 : Int32), (sX M2 (mX M2 + 1) (mS M2 + 6))) else if c5 = 2 then some ((2 : Int32), (sX M2 (mX M2 + 1) (mS M2 + 6))) else none else none) sm h hx hz (fun v C' M2 q => ⟨C', M2, rfl, q, fun _ _ _ => rfl, trivial⟩) th2
  have q1' : fL_abort x k B (xs (p + 1)) M = some (i32 c, M3) := q1
  refine ⟨M8, ?_, lp⟩
  have ex : ∀ d, d < 5 → (i32 p + i32 d).toNatClampNeg = p + d := fun d hd => by rw [i_add, i_nat (by omega)]
  have a1 := ex 1 (by omega)
  unfold fL_law_600
  rw [show (1 : Int32) = i32 1 from rfl, a1]
  exact e_ip (ix (d := 1) (by omega) hL) (e_o2 rfl q1' (e_ip (ix (d := 1) (by omega) hL) (e_ip k3 (e_o2 rfl q2 (e_ip k8 (e_o2 rfl q3 (e_ip rfl rfl)))))))
theorem law_again (hk : 5000 ≤ k) {L p : Nat} {xs : Nat → Int32} {rec : Nat → Nat → Nat → Int32 → Mm → Option (Int32 × Mm)} (hL : L ≤ 2560) (hp : p + 4 < L) (hl : Lp x B (n + 1) M) : ∃ M8, fL_law_636 x k L xs rec B (B + 25) (B + 47) (i32 p) M = rec B (B + 25) (B + 47) (i32 p + 5) M8 ∧ Lp x B n M8 := by
  obtain ⟨C, W, h, r, i, ry, hx, hz⟩ := hl.ry
  have sm : SimW x B 2 (fX4_again x k B (xs (p + 1))) (fX5_again x k (B + 25) (xs (p + 1))) C W M := by
    have e : ∀ v, i32 (nI32 v) = v := i_nI
    rw [← e (xs (p + 1))]
    exact (sim_again hk h r i ry.rx (nI32_lt _)).w
  obtain ⟨c, M3, rr, M8, c2, q1, k3, q2, k8, q3, hj, ⟨kj, nj⟩, lp⟩ := law_step (k := k) (n := n) (fun v m => (i32 m).toInt64 = v.toInt64) (okI B) (fun c5 M2 => if mX M2 + 1 ≤ xC x ∧ mS M2 + 6 ≤ xL x then if c5 = 1 then some ((1 : Int32), (sX M2 (mX M2 + 1) (mS M2 + 6))) else if c5 = 2 then some ((2 : Int32), (sX M2 (mX M2 + 1) (mS M2 + 6))) else none else none) sm h hx hz ok_int th2
  have q1' : fL_again x k B (xs (p + 1)) (B + 47) M = some (i32 c, M3) := q1
  refine ⟨M8, ?_, lp⟩
  have ex : ∀ d, d < 5 → (i32 p + i32 d).toNatClampNeg = p + d := fun d hd => by rw [i_add, i_nat (by omega)]
  have a1 := ex 1 (by omega)
  unfold fL_law_636
  rw [show (1 : Int32) = i32 1 from rfl, a1]
  refine e_ip (ix (d := 1) (by omega) hL) (e_o2 rfl q1' (e_ip (ix (d := 1) (by omega) hL) (e_ip k3 (e_o2 rfl q2 (e_ip k8 (e_o2 rfl q3 (e_ip rfl ?_)))))))
  by_cases c0 : c = 0
  · subst c0
    obtain ⟨m, j1, j2⟩ := hj rfl
    have nn : ¬ ((0 : Int32) < 0 ∨ mN M8 (B + 47) ≤ ((0 : Int32)).toNatClampNeg) := by rw [nj]; decide
    have j3 : mJ M8 (B + 47) 0 = rr.toInt64 := j1.trans j2
    have j4 : lg_cmp (mJ M8 (B + 47) 0) rr.toInt64 = 0 := by rw [j3]; exact lcmp0 _
    exact e_ip rfl (e_ip ⟨kj, nn⟩ (e_ip j4 rfl))
  · exact e_in (by rw [show (0 : Int32) = i32 0 from rfl, i_eq (by omega) (by omega)]; exact c0) rfl
theorem law_deliver (hk : 5000 ≤ k) {L p : Nat} {xs : Nat → Int32} {rec : Nat → Nat → Nat → Int32 → Mm → Option (Int32 × Mm)} (hL : L ≤ 2560) (hp : p + 4 < L) (hl : Lp x B (n + 1) M) : ∃ M8, fL_law_692 x k L xs rec B (B + 25) (B + 47) (i32 p) M = rec B (B + 25) (B + 47) (i32 p + 5) M8 ∧ Lp x B n M8 := by
  obtain ⟨C, W, h, r, i, ry, hx, hz⟩ := hl.ry
  have sm : SimW x B 1 (fX4_deliver x k B (xs (p + 1))) (fX5_deliver x k (B + 25) (xs (p + 1))) C W M := by
    have e : ∀ v, i32 (nI32 v) = v := i_nI
    rw [← e (xs (p + 1))]
    exact (sim_deliver hk h r i ry (nI32_lt _)).w
  obtain ⟨c, M3, rr, M8, c2, q1, k3, q2, k8, q3, hj, ⟨kj, nj⟩, lp⟩ := law_step (k := k) (n := n) (fun v m => (i32 m).toInt64 = v.toInt64) (okI B) (fun c5 M2 => if mX M2 + 1 ≤ xC x ∧ mS M2 + 6 ≤ xL x then if c5 = 1 then some ((1 : Int32), (sX M2 (mX M2 + 1) (mS M2 + 6))) else none else none) sm h hx hz ok_int th1
  have q1' : fL_deliver x k B (xs (p + 1)) (B + 47) M = some (i32 c, M3) := q1
  refine ⟨M8, ?_, lp⟩
  have ex : ∀ d, d < 5 → (i32 p + i32 d).toNatClampNeg = p + d := fun d hd => by rw [i_add, i_nat (by omega)]
  have a1 := ex 1 (by omega)
  unfold fL_law_692
  rw [show (1 : Int32) = i32 1 from rfl, a1]
  refine e_ip (ix (d := 1) (by omega) hL) (e_o2 rfl q1' (e_ip (ix (d := 1) (by omega) hL) (e_ip k3 (e_o2 rfl q2 (e_ip k8 (e_o2 rfl q3 (e_ip rfl ?_)))))))
  by_cases c0 : c = 0
  · subst c0
    obtain ⟨m, j1, j2⟩ := hj rfl
    have nn : ¬ ((0 : Int32) < 0 ∨ mN M8 (B + 47) ≤ ((0 : Int32)).toNatClampNeg) := by rw [nj]; decide
    have j3 : mJ M8 (B + 47) 0 = rr.toInt64 := j1.trans j2
    have j4 : lg_cmp (mJ M8 (B + 47) 0) rr.toInt64 = 0 := by rw [j3]; exact lcmp0 _
    exact e_ip rfl (e_ip ⟨kj, nn⟩ (e_ip j4 rfl))
  · exact e_in (by rw [show (0 : Int32) = i32 0 from rfl, i_eq (by omega) (by omega)]; exact c0) rfl
theorem law_drop (hk : 5000 ≤ k) {L p : Nat} {xs : Nat → Int32} {rec : Nat → Nat → Nat → Int32 → Mm → Option (Int32 × Mm)} (hL : L ≤ 2560) (hp : p + 4 < L) (hl : Lp x B (n + 1) M) : ∃ M8, fL_law_748 x k L xs rec B (B + 25) (B + 47) (i32 p) M = rec B (B + 25) (B + 47) (i32 p + 5) M8 ∧ Lp x B n M8 := by
  obtain ⟨C, W, h, r, i, ry, hx, hz⟩ := hl.ry
  have sm : SimW x B 1 (fX4_drop x k B (xs (p + 1))) (fX5_drop x k (B + 25) (xs (p + 1))) C W M := by
    have e : ∀ v, i32 (nI32 v) = v := i_nI
    rw [← e (xs (p + 1))]
    exact (sim_drop hk h r i ry.rx (nI32_lt _)).w
  obtain ⟨c, M3, rr, M8, c2, q1, k3, q2, k8, q3, hj, ⟨kj, nj⟩, lp⟩ := law_step (k := k) (n := n) (fun v m => (i32 m).toInt64 = v.toInt64) (okI B) (fun c5 M2 => if mX M2 + 1 ≤ xC x ∧ mS M2 + 6 ≤ xL x then if c5 = 1 then some ((1 : Int32), (sX M2 (mX M2 + 1) (mS M2 + 6))) else none else none) sm h hx hz ok_int th1
  have q1' : fL_drop x k B (xs (p + 1)) (B + 47) M = some (i32 c, M3) := q1
  refine ⟨M8, ?_, lp⟩
  have ex : ∀ d, d < 5 → (i32 p + i32 d).toNatClampNeg = p + d := fun d hd => by rw [i_add, i_nat (by omega)]
  have a1 := ex 1 (by omega)
  unfold fL_law_748
  rw [show (1 : Int32) = i32 1 from rfl, a1]
  refine e_ip (ix (d := 1) (by omega) hL) (e_o2 rfl q1' (e_ip (ix (d := 1) (by omega) hL) (e_ip k3 (e_o2 rfl q2 (e_ip k8 (e_o2 rfl q3 (e_ip rfl ?_)))))))
  by_cases c0 : c = 0
  · subst c0
    obtain ⟨m, j1, j2⟩ := hj rfl
    have nn : ¬ ((0 : Int32) < 0 ∨ mN M8 (B + 47) ≤ ((0 : Int32)).toNatClampNeg) := by rw [nj]; decide
    have j3 : mJ M8 (B + 47) 0 = rr.toInt64 := j1.trans j2
    have j4 : lg_cmp (mJ M8 (B + 47) 0) rr.toInt64 = 0 := by rw [j3]; exact lcmp0 _
    exact e_ip rfl (e_ip ⟨kj, nn⟩ (e_ip j4 rfl))
  · exact e_in (by rw [show (0 : Int32) = i32 0 from rfl, i_eq (by omega) (by omega)]; exact c0) rfl
theorem law_copy (hk : 5000 ≤ k) {L p : Nat} {xs : Nat → Int32} {rec : Nat → Nat → Nat → Int32 → Mm → Option (Int32 × Mm)} (hL : L ≤ 2560) (hp : p + 4 < L) (hl : Lp x B (n + 1) M) : ∃ M8, fL_law_804 x k L xs rec B (B + 25) (B + 47) (i32 p) M = rec B (B + 25) (B + 47) (i32 p + 5) M8 ∧ Lp x B n M8 := by
  obtain ⟨C, W, h, r, i, ry, hx, hz⟩ := hl.ry
  have sm : SimW x B 1 (fX4_copy x k B (xs (p + 1))) (fX5_copy x k (B + 25) (xs (p + 1))) C W M := by
    have e : ∀ v, i32 (nI32 v) = v := i_nI
    rw [← e (xs (p + 1))]
    exact (sim_copy hk h r i ry.rx (nI32_lt _)).w
  obtain ⟨c, M3, rr, M8, c2, q1, k3, q2, k8, q3, hj, ⟨kj, nj⟩, lp⟩ := law_step (k := k) (n := n) (fun v m => (i32 m).toInt64 = if v = 0 then 0 else 1) (okC x k B) (fun c5 M2 => if mX M2 + 1 ≤ xC x ∧ mS M2 + 6 ≤ xL x then if c5 = 1 then some ((1 : Int32), (sX M2 (mX M2 + 1) (mS M2 + 6))) else none else none) sm h hx hz ok_copy th1
  have q1' : fL_copy x k B (xs (p + 1)) (B + 47) M = some (i32 c, M3) := q1
  refine ⟨M8, ?_, lp⟩
  have ex : ∀ d, d < 5 → (i32 p + i32 d).toNatClampNeg = p + d := fun d hd => by rw [i_add, i_nat (by omega)]
  have a1 := ex 1 (by omega)
  unfold fL_law_804
  rw [show (1 : Int32) = i32 1 from rfl, a1]
  refine e_ip (ix (d := 1) (by omega) hL) (e_o2 rfl q1' (e_ip (ix (d := 1) (by omega) hL) (e_ip k3 (e_o2 rfl q2 (e_ip k8 (e_o2 rfl q3 (e_ip rfl ?_)))))))
  by_cases c0 : c = 0
  · subst c0
    obtain ⟨m, j1, j2⟩ := hj rfl
    have nn : ¬ ((0 : Int32) < 0 ∨ mN M8 (B + 47) ≤ ((0 : Int32)).toNatClampNeg) := by rw [nj]; decide
    by_cases cr : rr = 0
    · rw [if_pos cr] at j2
      have j4 : lg_cmp (mJ M8 (B + 47) 0) 0 = 0 := by rw [j1, j2]; exact lcmp0 _
      exact e_ip rfl (e_ip ⟨kj, nn⟩ (e_ip cr (e_ip j4 rfl)))
    · rw [if_neg cr] at j2
      have j4 : lg_cmp (mJ M8 (B + 47) 0) 1 = 0 := by rw [j1, j2]; exact lcmp0 _
      exact e_ip rfl (e_ip ⟨kj, nn⟩ (e_in cr (e_ip j4 rfl)))
  · exact e_in (by rw [show (0 : Int32) = i32 0 from rfl, i_eq (by omega) (by omega)]; exact c0) rfl
theorem law_byteOf (hk : 5000 ≤ k) {L p : Nat} {xs : Nat → Int32} {rec : Nat → Nat → Nat → Int32 → Mm → Option (Int32 × Mm)} (hL : L ≤ 2560) (hp : p + 4 < L) (hl : Lp x B (n + 1) M) : ∃ M8, fL_law_867 x k L xs rec B (B + 25) (B + 47) (i32 p) M = rec B (B + 25) (B + 47) (i32 p + 5) M8 ∧ Lp x B n M8 := by
  obtain ⟨C, W, h, r, i, ry, hx, hz⟩ := hl.ry
  have sm : SimW x B 1 (fX4_byteOf x k B (xs (p + 1)) (xs (p + 2))) (fX5_byteOf x k (B + 25) (xs (p + 1)) (xs (p + 2))) C W M := by
    have e : ∀ v, i32 (nI32 v) = v := i_nI
    rw [← e (xs (p + 1)), ← e (xs (p + 2))]
    exact sim_byte hk h r i ry.rx (nI32_lt _) (nI32_lt _)
  obtain ⟨c, M3, rr, M8, c2, q1, k3, q2, k8, q3, hj, ⟨kj, nj⟩, lp⟩ := law_step (k := k) (n := n) (fun v m => (i32 m).toInt64 = v.toInt64) (okI B) (fun c5 M2 => if mX M2 + 1 ≤ xC x ∧ mS M2 + 6 ≤ xL x then if c5 = 1 then some ((1 : Int32), (sX M2 (mX M2 + 1) (mS M2 + 6))) else none else none) sm h hx hz ok_int th1
  have q1' : fL_byteOf x k B (xs (p + 1)) (xs (p + 2)) (B + 47) M = some (i32 c, M3) := q1
  refine ⟨M8, ?_, lp⟩
  have ex : ∀ d, d < 5 → (i32 p + i32 d).toNatClampNeg = p + d := fun d hd => by rw [i_add, i_nat (by omega)]
  have a1 := ex 1 (by omega)
  have a2 := ex 2 (by omega)
  unfold fL_law_867
  rw [show (1 : Int32) = i32 1 from rfl, show (2 : Int32) = i32 2 from rfl, a1, a2]
  refine e_ip (ix (d := 1) (by omega) hL) (e_ip (ix (d := 2) (by omega) hL) (e_o2 rfl q1' (e_ip (ix (d := 1) (by omega) hL) (e_ip (ix (d := 2) (by omega) hL) (e_ip k3 (e_o2 rfl q2 (e_ip k8 (e_o2 rfl q3 (e_ip rfl ?_)))))))))
  by_cases c0 : c = 0
  · subst c0
    obtain ⟨m, j1, j2⟩ := hj rfl
    have nn : ¬ ((0 : Int32) < 0 ∨ mN M8 (B + 47) ≤ ((0 : Int32)).toNatClampNeg) := by rw [nj]; decide
    have j3 : mJ M8 (B + 47) 0 = rr.toInt64 := j1.trans j2
    have j4 : lg_cmp (mJ M8 (B + 47) 0) rr.toInt64 = 0 := by rw [j3]; exact lcmp0 _
    exact e_ip rfl (e_ip ⟨kj, nn⟩ (e_ip j4 rfl))
  · exact e_in (by rw [show (0 : Int32) = i32 0 from rfl, i_eq (by omega) (by omega)]; exact c0) rfl
theorem law_crash (hk : 5000 ≤ k) {L p : Nat} {xs : Nat → Int32} {rec : Nat → Nat → Nat → Int32 → Mm → Option (Int32 × Mm)} (hL : L ≤ 2560) (hp : p + 4 < L) (hl : Lp x B (n + 1) M) : ∃ M8, fL_law_935 x k L xs rec B (B + 25) (B + 47) (i32 p) M = rec B (B + 25) (B + 47) (i32 p + 5) M8 ∧ Lp x B n M8 := by
  obtain ⟨C, W, h, r, i, ry, hx, hz⟩ := hl.ry
  have sm : SimW x B 2 (fX4_crash x k B (xs (p + 1))) (fX5_crash x k (B + 25) (xs (p + 1))) C W M := by
    have e : ∀ v, i32 (nI32 v) = v := i_nI
    rw [← e (xs (p + 1))]
    exact (sim_crash hk h r i ry.rx (nI32_lt _)).w
  obtain ⟨c, M3, rr, M8, c2, q1, k3, q2, k8, q3, hj, ⟨kj, nj⟩, lp⟩ := law_step (k := k) (n := n) (fun _ _ => True) (fun _ M2 => some ((0 : Int32), M2)) (fun c5 M2 => if mX M2 + 1 ≤ xC x ∧ mS M2 + 6 ≤ xL x then if c5 = 1 then some ((1 : Int32), (sX M2 (mX M2 + 1) (mS M2 + 6))) else if c5 = 2 then some ((2 : Int32), (sX M2 (mX M2 + 1) (mS M2 + 6))) else none else none) sm h hx hz (fun v C' M2 q => ⟨C', M2, rfl, q, fun _ _ _ => rfl, trivial⟩) th2
  have q1' : fL_crash x k B (xs (p + 1)) M = some (i32 c, M3) := q1
  refine ⟨M8, ?_, lp⟩
  have ex : ∀ d, d < 5 → (i32 p + i32 d).toNatClampNeg = p + d := fun d hd => by rw [i_add, i_nat (by omega)]
  have a1 := ex 1 (by omega)
  unfold fL_law_935
  rw [show (1 : Int32) = i32 1 from rfl, a1]
  exact e_ip (ix (d := 1) (by omega) hL) (e_o2 rfl q1' (e_ip (ix (d := 1) (by omega) hL) (e_ip k3 (e_o2 rfl q2 (e_ip k8 (e_o2 rfl q3 (e_ip rfl rfl)))))))
theorem law_restart (hk : 5000 ≤ k) {L p : Nat} {xs : Nat → Int32} {rec : Nat → Nat → Nat → Int32 → Mm → Option (Int32 × Mm)} (hL : L ≤ 2560) (hp : p + 4 < L) (hl : Lp x B (n + 1) M) : ∃ M8, fL_law_971 x k L xs rec B (B + 25) (B + 47) (i32 p) M = rec B (B + 25) (B + 47) (i32 p + 5) M8 ∧ Lp x B n M8 := by
  obtain ⟨C, W, h, r, i, ry, hx, hz⟩ := hl.ry
  have sm : SimW x B 2 (fX4_restart x k B (xs (p + 1))) (fX5_restart x k (B + 25) (xs (p + 1))) C W M := by
    have e : ∀ v, i32 (nI32 v) = v := i_nI
    rw [← e (xs (p + 1))]
    exact (sim_restart hk h r i ry.rx (nI32_lt _)).w
  obtain ⟨c, M3, rr, M8, c2, q1, k3, q2, k8, q3, hj, ⟨kj, nj⟩, lp⟩ := law_step (k := k) (n := n) (fun _ _ => True) (fun _ M2 => some ((0 : Int32), M2)) (fun c5 M2 => if mX M2 + 1 ≤ xC x ∧ mS M2 + 6 ≤ xL x then if c5 = 1 then some ((1 : Int32), (sX M2 (mX M2 + 1) (mS M2 + 6))) else if c5 = 2 then some ((2 : Int32), (sX M2 (mX M2 + 1) (mS M2 + 6))) else none else none) sm h hx hz (fun v C' M2 q => ⟨C', M2, rfl, q, fun _ _ _ => rfl, trivial⟩) th2
  have q1' : fL_restart x k B (xs (p + 1)) M = some (i32 c, M3) := q1
  refine ⟨M8, ?_, lp⟩
  have ex : ∀ d, d < 5 → (i32 p + i32 d).toNatClampNeg = p + d := fun d hd => by rw [i_add, i_nat (by omega)]
  have a1 := ex 1 (by omega)
  unfold fL_law_971
  rw [show (1 : Int32) = i32 1 from rfl, a1]
  exact e_ip (ix (d := 1) (by omega) hL) (e_o2 rfl q1' (e_ip (ix (d := 1) (by omega) hL) (e_ip k3 (e_o2 rfl q2 (e_ip k8 (e_o2 rfl q3 (e_ip rfl rfl)))))))
theorem law_about (hk : 5000 ≤ k) {L p : Nat} {xs : Nat → Int32} {rec : Nat → Nat → Nat → Int32 → Mm → Option (Int32 × Mm)} (hL : L ≤ 2560) (hp : p + 4 < L) (hl : Lp x B (n + 1) M) : ∃ M8, fL_law_1007 x k L xs rec B (B + 25) (B + 47) (i32 p) M = rec B (B + 25) (B + 47) (i32 p + 5) M8 ∧ Lp x B n M8 := by
  obtain ⟨C, W, h, r, i, ry, hx, hz⟩ := hl.ry
  have sm : SimW x B 1 (fX4_about x k B (xs (p + 1)) (xs (p + 2))) (fX5_about x k (B + 25) (xs (p + 1)) (xs (p + 2))) C W M := by
    have e : ∀ v, i32 (nI32 v) = v := i_nI
    rw [← e (xs (p + 1)), ← e (xs (p + 2))]
    exact (sim_about hk h r i ry.rx (nI32_lt _) (nI32_lt _)).w
  obtain ⟨c, M3, rr, M8, c2, q1, k3, q2, k8, q3, hj, ⟨kj, nj⟩, lp⟩ := law_step (k := k) (n := n) (fun v m => (i32 m).toInt64 = v.toInt64) (okI B) (fun c5 M2 => if mX M2 + 1 ≤ xC x ∧ mS M2 + 6 ≤ xL x then if c5 = 1 then some ((1 : Int32), (sX M2 (mX M2 + 1) (mS M2 + 6))) else none else none) sm h hx hz ok_int th1
  have q1' : fL_about x k B (xs (p + 1)) (xs (p + 2)) (B + 47) M = some (i32 c, M3) := q1
  refine ⟨M8, ?_, lp⟩
  have ex : ∀ d, d < 5 → (i32 p + i32 d).toNatClampNeg = p + d := fun d hd => by rw [i_add, i_nat (by omega)]
  have a1 := ex 1 (by omega)
  have a2 := ex 2 (by omega)
  unfold fL_law_1007
  rw [show (1 : Int32) = i32 1 from rfl, show (2 : Int32) = i32 2 from rfl, a1, a2]
  refine e_ip (ix (d := 1) (by omega) hL) (e_ip (ix (d := 2) (by omega) hL) (e_o2 rfl q1' (e_ip (ix (d := 1) (by omega) hL) (e_ip (ix (d := 2) (by omega) hL) (e_ip k3 (e_o2 rfl q2 (e_ip k8 (e_o2 rfl q3 (e_ip rfl ?_)))))))))
  by_cases c0 : c = 0
  · subst c0
    obtain ⟨m, j1, j2⟩ := hj rfl
    have nn : ¬ ((0 : Int32) < 0 ∨ mN M8 (B + 47) ≤ ((0 : Int32)).toNatClampNeg) := by rw [nj]; decide
    have j3 : mJ M8 (B + 47) 0 = rr.toInt64 := j1.trans j2
    have j4 : lg_cmp (mJ M8 (B + 47) 0) rr.toInt64 = 0 := by rw [j3]; exact lcmp0 _
    exact e_ip rfl (e_ip ⟨kj, nn⟩ (e_ip j4 rfl))
  · exact e_in (by rw [show (0 : Int32) = i32 0 from rfl, i_eq (by omega) (by omega)]; exact c0) rfl
theorem law_vector (hk : 5000 ≤ k) {L p : Nat} {xs : Nat → Int32} {rec : Nat → Nat → Nat → Int32 → Mm → Option (Int32 × Mm)} (hL : L ≤ 2560) (hp : p + 4 < L) (hl : Lp x B (n + 1) M) : ∃ M8, fL_law_1075 x k L xs rec B (B + 25) (B + 47) (i32 p) M = rec B (B + 25) (B + 47) (i32 p + 5) M8 ∧ Lp x B n M8 := by
  obtain ⟨C, W, h, r, i, ry, hx, hz⟩ := hl.ry
  have sm : SimW x B 1 (fX4_vector x k B (xs (p + 1)) (xs (p + 2))) (fX5_vector x k (B + 25) (xs (p + 1)) (xs (p + 2))) C W M := by
    have e : ∀ v, i32 (nI32 v) = v := i_nI
    rw [← e (xs (p + 1)), ← e (xs (p + 2))]
    exact (sim_vector h r i ry.rx (nI32_lt _) (nI32_lt _)).w
  obtain ⟨c, M3, rr, M8, c2, q1, k3, q2, k8, q3, hj, ⟨kj, nj⟩, lp⟩ := law_step (k := k) (n := n) (fun v m => (i32 m).toInt64 = v.toInt64) (okI B) (fun c5 M2 => if mX M2 + 1 ≤ xC x ∧ mS M2 + 6 ≤ xL x then if c5 = 1 then some ((1 : Int32), (sX M2 (mX M2 + 1) (mS M2 + 6))) else none else none) sm h hx hz ok_int th1
  have q1' : fL_vector x k B (xs (p + 1)) (xs (p + 2)) (B + 47) M = some (i32 c, M3) := q1
  refine ⟨M8, ?_, lp⟩
  have ex : ∀ d, d < 5 → (i32 p + i32 d).toNatClampNeg = p + d := fun d hd => by rw [i_add, i_nat (by omega)]
  have a1 := ex 1 (by omega)
  have a2 := ex 2 (by omega)
  unfold fL_law_1075
  rw [show (1 : Int32) = i32 1 from rfl, show (2 : Int32) = i32 2 from rfl, a1, a2]
  refine e_ip (ix (d := 1) (by omega) hL) (e_ip (ix (d := 2) (by omega) hL) (e_o2 rfl q1' (e_ip (ix (d := 1) (by omega) hL) (e_ip (ix (d := 2) (by omega) hL) (e_ip k3 (e_o2 rfl q2 (e_ip k8 (e_o2 rfl q3 (e_ip rfl ?_)))))))))
  by_cases c0 : c = 0
  · subst c0
    obtain ⟨m, j1, j2⟩ := hj rfl
    have nn : ¬ ((0 : Int32) < 0 ∨ mN M8 (B + 47) ≤ ((0 : Int32)).toNatClampNeg) := by rw [nj]; decide
    have j3 : mJ M8 (B + 47) 0 = rr.toInt64 := j1.trans j2
    have j4 : lg_cmp (mJ M8 (B + 47) 0) rr.toInt64 = 0 := by rw [j3]; exact lcmp0 _
    exact e_ip rfl (e_ip ⟨kj, nn⟩ (e_ip j4 rfl))
  · exact e_in (by rw [show (0 : Int32) = i32 0 from rfl, i_eq (by omega) (by omega)]; exact c0) rfl
theorem law_value (hk : 5000 ≤ k) {L p : Nat} {xs : Nat → Int32} {rec : Nat → Nat → Nat → Int32 → Mm → Option (Int32 × Mm)} (hL : L ≤ 2560) (hp : p + 4 < L) (hl : Lp x B (n + 1) M) : ∃ M8, fL_law_1143 x k L xs rec B (B + 25) (B + 47) (i32 p) M = rec B (B + 25) (B + 47) (i32 p + 5) M8 ∧ Lp x B n M8 := by
  obtain ⟨C, W, h, r, i, ry, hx, hz⟩ := hl.ry
  have sm : SimW x B 1 (fX4_value x k B (xs (p + 1)) (xs (p + 2))) (fX5_value x k (B + 25) (xs (p + 1)) (xs (p + 2))) C W M := by
    have e : ∀ v, i32 (nI32 v) = v := i_nI
    rw [← e (xs (p + 1)), ← e (xs (p + 2))]
    exact (sim_value hk h r i ry.rx (nI32_lt _) (nI32_lt _)).w
  obtain ⟨c, M3, rr, M8, c2, q1, k3, q2, k8, q3, hj, ⟨kj, nj⟩, lp⟩ := law_step (k := k) (n := n) (fun v m => (i32 m).toInt64 = v.toInt64) (okI B) (fun c5 M2 => if mX M2 + 1 ≤ xC x ∧ mS M2 + 6 ≤ xL x then if c5 = 1 then some ((1 : Int32), (sX M2 (mX M2 + 1) (mS M2 + 6))) else none else none) sm h hx hz ok_int th1
  have q1' : fL_value x k B (xs (p + 1)) (xs (p + 2)) (B + 47) M = some (i32 c, M3) := q1
  refine ⟨M8, ?_, lp⟩
  have ex : ∀ d, d < 5 → (i32 p + i32 d).toNatClampNeg = p + d := fun d hd => by rw [i_add, i_nat (by omega)]
  have a1 := ex 1 (by omega)
  have a2 := ex 2 (by omega)
  unfold fL_law_1143
  rw [show (1 : Int32) = i32 1 from rfl, show (2 : Int32) = i32 2 from rfl, a1, a2]
  refine e_ip (ix (d := 1) (by omega) hL) (e_ip (ix (d := 2) (by omega) hL) (e_o2 rfl q1' (e_ip (ix (d := 1) (by omega) hL) (e_ip (ix (d := 2) (by omega) hL) (e_ip k3 (e_o2 rfl q2 (e_ip k8 (e_o2 rfl q3 (e_ip rfl ?_)))))))))
  by_cases c0 : c = 0
  · subst c0
    obtain ⟨m, j1, j2⟩ := hj rfl
    have nn : ¬ ((0 : Int32) < 0 ∨ mN M8 (B + 47) ≤ ((0 : Int32)).toNatClampNeg) := by rw [nj]; decide
    have j3 : mJ M8 (B + 47) 0 = rr.toInt64 := j1.trans j2
    have j4 : lg_cmp (mJ M8 (B + 47) 0) rr.toInt64 = 0 := by rw [j3]; exact lcmp0 _
    exact e_ip rfl (e_ip ⟨kj, nn⟩ (e_ip j4 rfl))
  · exact e_in (by rw [show (0 : Int32) = i32 0 from rfl, i_eq (by omega) (by omega)]; exact c0) rfl
theorem law_locked (hk : 5000 ≤ k) {L p : Nat} {xs : Nat → Int32} {rec : Nat → Nat → Nat → Int32 → Mm → Option (Int32 × Mm)} (hL : L ≤ 2560) (hp : p + 4 < L) (hl : Lp x B (n + 1) M) : ∃ M8, fL_law_1211 x k L xs rec B (B + 25) (B + 47) (i32 p) M = rec B (B + 25) (B + 47) (i32 p + 5) M8 ∧ Lp x B n M8 := by
  obtain ⟨C, W, h, r, i, ry, hx, hz⟩ := hl.ry
  have sm : SimW x B 1 (fX4_locked x k B (xs (p + 1)) (xs (p + 2))) (fX5_locked x k (B + 25) (xs (p + 1)) (xs (p + 2))) C W M := by
    have e : ∀ v, i32 (nI32 v) = v := i_nI
    rw [← e (xs (p + 1)), ← e (xs (p + 2))]
    exact (sim_locked h r i ry.rx (nI32_lt _) (nI32_lt _)).w
  obtain ⟨c, M3, rr, M8, c2, q1, k3, q2, k8, q3, hj, ⟨kj, nj⟩, lp⟩ := law_step (k := k) (n := n) (fun v m => (i32 m).toInt64 = v.toInt64) (okI B) (fun c5 M2 => if mX M2 + 1 ≤ xC x ∧ mS M2 + 6 ≤ xL x then if c5 = 1 then some ((1 : Int32), (sX M2 (mX M2 + 1) (mS M2 + 6))) else none else none) sm h hx hz ok_int th1
  have q1' : fL_locked x k B (xs (p + 1)) (xs (p + 2)) (B + 47) M = some (i32 c, M3) := q1
  refine ⟨M8, ?_, lp⟩
  have ex : ∀ d, d < 5 → (i32 p + i32 d).toNatClampNeg = p + d := fun d hd => by rw [i_add, i_nat (by omega)]
  have a1 := ex 1 (by omega)
  have a2 := ex 2 (by omega)
  unfold fL_law_1211
  rw [show (1 : Int32) = i32 1 from rfl, show (2 : Int32) = i32 2 from rfl, a1, a2]
  refine e_ip (ix (d := 1) (by omega) hL) (e_ip (ix (d := 2) (by omega) hL) (e_o2 rfl q1' (e_ip (ix (d := 1) (by omega) hL) (e_ip (ix (d := 2) (by omega) hL) (e_ip k3 (e_o2 rfl q2 (e_ip k8 (e_o2 rfl q3 (e_ip rfl ?_)))))))))
  by_cases c0 : c = 0
  · subst c0
    obtain ⟨m, j1, j2⟩ := hj rfl
    have nn : ¬ ((0 : Int32) < 0 ∨ mN M8 (B + 47) ≤ ((0 : Int32)).toNatClampNeg) := by rw [nj]; decide
    have j3 : mJ M8 (B + 47) 0 = rr.toInt64 := j1.trans j2
    have j4 : lg_cmp (mJ M8 (B + 47) 0) rr.toInt64 = 0 := by rw [j3]; exact lcmp0 _
    exact e_ip rfl (e_ip ⟨kj, nn⟩ (e_ip j4 rfl))
  · exact e_in (by rw [show (0 : Int32) = i32 0 from rfl, i_eq (by omega) (by omega)]; exact c0) rfl
theorem law_total (hk : 5000 ≤ k) {L p : Nat} {xs : Nat → Int32} {rec : Nat → Nat → Nat → Int32 → Mm → Option (Int32 × Mm)} (hL : L ≤ 2560) (hp : p + 4 < L) (hl : Lp x B (n + 1) M) : ∃ M8, fL_law_1279 x k L xs rec B (B + 25) (B + 47) (i32 p) M = rec B (B + 25) (B + 47) (i32 p + 5) M8 ∧ Lp x B n M8 := by
  obtain ⟨C, W, h, r, i, ry, hx, hz⟩ := hl.ry
  have sm : SimW x B 1 (fX4_total x k B (xs (p + 1))) (fX5_total x k (B + 25) (xs (p + 1))) C W M := by
    have e : ∀ v, i32 (nI32 v) = v := i_nI
    rw [← e (xs (p + 1))]
    exact (sim_total hk h r i ry.rx (nI32_lt _)).w
  obtain ⟨c, M3, rr, M8, c2, q1, k3, q2, k8, q3, hj, ⟨kj, nj⟩, lp⟩ := law_step (k := k) (n := n) (fun v m => (i32 m).toInt64 = v.toInt64) (okI B) (fun c5 M2 => if mX M2 + 1 ≤ xC x ∧ mS M2 + 6 ≤ xL x then if c5 = 1 then some ((1 : Int32), (sX M2 (mX M2 + 1) (mS M2 + 6))) else none else none) sm h hx hz ok_int th1
  have q1' : fL_total x k B (xs (p + 1)) (B + 47) M = some (i32 c, M3) := q1
  refine ⟨M8, ?_, lp⟩
  have ex : ∀ d, d < 5 → (i32 p + i32 d).toNatClampNeg = p + d := fun d hd => by rw [i_add, i_nat (by omega)]
  have a1 := ex 1 (by omega)
  unfold fL_law_1279
  rw [show (1 : Int32) = i32 1 from rfl, a1]
  refine e_ip (ix (d := 1) (by omega) hL) (e_o2 rfl q1' (e_ip (ix (d := 1) (by omega) hL) (e_ip k3 (e_o2 rfl q2 (e_ip k8 (e_o2 rfl q3 (e_ip rfl ?_)))))))
  by_cases c0 : c = 0
  · subst c0
    obtain ⟨m, j1, j2⟩ := hj rfl
    have nn : ¬ ((0 : Int32) < 0 ∨ mN M8 (B + 47) ≤ ((0 : Int32)).toNatClampNeg) := by rw [nj]; decide
    have j3 : mJ M8 (B + 47) 0 = rr.toInt64 := j1.trans j2
    have j4 : lg_cmp (mJ M8 (B + 47) 0) rr.toInt64 = 0 := by rw [j3]; exact lcmp0 _
    exact e_ip rfl (e_ip ⟨kj, nn⟩ (e_ip j4 rfl))
  · exact e_in (by rw [show (0 : Int32) = i32 0 from rfl, i_eq (by omega) (by omega)]; exact c0) rfl
end
