/-! Class and reference answer alike: byteOf -/
section
variable {x : Cx} {k B : Nat} {C W W0 : Ab} {M : Mm}
theorem sp_spell (hk : 5000 ≤ k) (r : Rl C W) {j w kd fr to t : Nat} (hw : w < 4294967296) (hj : j < W 0 23) (e0 : W 20 (4 * j) = kd) (e1 : W 20 (4 * j + 1) = fr) (e2 : W 20 (4 * j + 2) = to) (hkd : 1 ≤ kd ∧ kd ≤ 5) (hto : to < 5) (ht : t < W 0 5) {C' : Ab} (s : Sp x B C W0 w [] C' M) : ∃ C2 M2, fX4_spell x k B (C 71 j) (C 70 t) M = some ((), M2) ∧ Sp x B C W0 w (allB W kd fr to t ++ two (i32 (chk (allB W kd fr to t)))) C2 M2 := by
  have hb := r.b
  have h17 := r.b17 ht
  have h := s.1
  have tE : ∀ {L : List Nat} {D : Ab} {M' : Mm}, Sp x B C W0 w L D M' → By L → L.length < 300 → mK M' (C 70 t) = 4 ∧ mV M' (C 70 t) 0 = i32 t ∧ mV M' (C 70 t) 3 = i32 (W 6 t) := by
    intro L D M' s' b' l'
    have r' := s'.rl r b' l' hw
    have e70 : D 70 t = C 70 t := s'.2.1.1 _ _ (by omega)
    obtain ⟨k', v', -, -⟩ := tk s'.1 (r'.c ht) e70
    exact ⟨k', by rw [v', (r'.t ht).1.1], by rw [v', (r'.t ht).1.2.2.2.1]⟩
  obtain ⟨l1, lv1⟩ := sp_let r s hj
  have x0 : fX1_kind x k (C 71 j) M = some (i32 kd, M) := l_kind l1 (by rw [lv1 0 (by omega), Nat.add_zero, e0])
  obtain ⟨C1, M1, q1, s1⟩ := sp_put (k := k) s By.nil (by show 0 < 299; omega) hw (i32 kd)
  have b1 : By ([] ++ [bt (i32 kd)]) := By.one (bt_lt _)
  obtain ⟨l2, lv2⟩ := sp_let r s1 hj
  have x1 : fX1_from x k (C 71 j) M1 = some (i32 fr, M1) := l_from l2 (by rw [lv2 1 (by omega), e1])
  obtain ⟨C2, M2, q2, s2⟩ := sp_put (k := k) s1 b1 (by show 1 < 299; omega) hw (i32 fr)
  have b2 := b1.app (By.one (bt_lt (i32 fr)))
  obtain ⟨l3, lv3⟩ := sp_let r s2 hj
  have x2 : fX1_to x k (C 71 j) M2 = some (i32 to, M2) := l_to l3 (by rw [lv3 2 (by omega), e2])
  obtain ⟨C3, M3, q3, s3⟩ := sp_put (k := k) s2 b2 (by show 2 < 299; omega) hw (i32 to)
  have b3 := b2.app (By.one (bt_lt (i32 to)))
  obtain ⟨t31, t32, -⟩ := tE s3 b3 (by show 3 < 300; omega)
  obtain ⟨C4, M4, q4, s4⟩ := sp_two (k := k) s3 b3 (by show 3 < 298; omega) hw (i32 t)
  have b4 := b3.app (two_by (i32 t))
  have s4' : Sp x B C W0 w ([bt (i32 kd), bt (i32 fr), bt (i32 to)] ++ two (i32 t)) C4 M4 := s4
  have b4' : By ([bt (i32 kd), bt (i32 fr), bt (i32 to)] ++ two (i32 t)) := b4
  obtain ⟨l5, lv5⟩ := sp_let r s4' hj
  have x5 : fX1_kind x k (C 71 j) M4 = some (i32 kd, M4) := l_kind l5 (by rw [lv5 0 (by omega), Nat.add_zero, e0])
  have h1 := s1.1
  have h2 := s2.1
  have h3 := s3.1
  have h4 := s4.1
  have st := stB_l W t (W 0 0)
  have fin : ∀ {L : List Nat} {D : Ab} {M' : Mm}, Sp x B C W0 w L D M' → By L → L.length < 290 → L = allB W kd fr to t → ∃ C2 M2, fX4_spell_103 x k B M' = some ((), M2) ∧ Sp x B C W0 w (allB W kd fr to t ++ two (i32 (chk (allB W kd fr to t)))) C2 M2 := by
    intro L D M' s' b' l' eL
    subst eL
    exact sp_end s' b' l' hw
  by_cases c1 : kd = 1
  · subst c1
    obtain ⟨C5, M5, q5, s5⟩ := sp_start (k := k) hk r ht hw b4' (by show 5 < 250; omega) s4'
    have b5 := b4'.app st.2
    obtain ⟨l6, lv6⟩ := sp_let r s5 hj
    have x6 : fX1_to x k (C 71 j) M5 = some (i32 to, M5) := l_to l6 (by rw [lv6 2 (by omega), e2])
    have ll : ([bt (i32 1), bt (i32 fr), bt (i32 to)] ++ two (i32 t) ++ stB W t (W 0 0)).length = 5 + 2 * W 0 0 := by rw [List.length_append, st.1]; rfl
    obtain ⟨C6, M6, q6, s6⟩ := sp_ask5 (k := k) hk r ht hto hw b5 (by rw [ll]; omega) s5 k 0 (by omega) (by omega)
    have q6' : fX4_spellAsked x k B (C 70 t) (i32 to) M5 = some ((), M6) := q6
    have ob := obB_l W 1 t (pB W 1 to t) 20
    have hc := ct_le (pB W 1 to t) 20
    obtain ⟨C7, M7, q7, s7⟩ := fin s6 (b5.app ((By.one (show ct (pB W 1 to t) 20 < 256 by omega)).app ob.2)) (by rw [List.length_append, ll, List.length_cons]; omega) (by
      unfold allB bodyB
      rw [if_pos rfl]
      simp only [List.append_assoc])
    refine ⟨C7, M7, ?_, s7⟩
    have h5 := s5.1
    have h6 := s6.1
    unfold fX4_spell
    rw [← t32] at q4
    repeat (first
      | (with_reducible refine e_ip (kB h) ?_)
      | (with_reducible refine e_o1 (p_f h) ?_)
      | (with_reducible refine e_ip (kF h) ?_)
      | (with_reducible refine e_ip (kB h1) ?_)
      | (with_reducible refine e_o1 (p_f h1) ?_)
      | (with_reducible refine e_ip (kF h1) ?_)
      | (with_reducible refine e_ip (kB h2) ?_)
      | (with_reducible refine e_o1 (p_f h2) ?_)
      | (with_reducible refine e_ip (kF h2) ?_)
      | (with_reducible refine e_ip (kB h3) ?_)
      | (with_reducible refine e_o1 (p_f h3) ?_)
      | (with_reducible refine e_ip (kF h3) ?_)
      | (with_reducible refine e_ip (kB h4) ?_)
      | (with_reducible refine e_o1 (p_f h4) ?_)
      | (with_reducible refine e_ip (kF h4) ?_)
      | (with_reducible refine e_ip (kB h5) ?_)
      | (with_reducible refine e_o1 (p_f h5) ?_)
      | (with_reducible refine e_ip (kF h5) ?_)
      | (with_reducible refine e_ip (kB h6) ?_)
      | (with_reducible refine e_o1 (p_f h6) ?_)
      | (with_reducible refine e_ip (kF h6) ?_)
      | (with_reducible refine e_ip l1 ?_)
      | (with_reducible refine e_ip l2 ?_)
      | (with_reducible refine e_ip l3 ?_)
      | (with_reducible refine e_ip l5 ?_)
      | (with_reducible refine e_ip l6 ?_)
      | (with_reducible refine e_ip t31 ?_)
      | (with_reducible refine e_o2 rfl x0 ?_)
      | (with_reducible refine e_o2 rfl q1 ?_)
      | (with_reducible refine e_o2 rfl x1 ?_)
      | (with_reducible refine e_o2 rfl q2 ?_)
      | (with_reducible refine e_o2 rfl x2 ?_)
      | (with_reducible refine e_o2 rfl q3 ?_)
      | (with_reducible refine e_o2 rfl q4 ?_)
      | (with_reducible refine e_o2 rfl x5 ?_)
      | (with_reducible refine e_o2 rfl q5 ?_)
      | (with_reducible refine e_o2 rfl x6 ?_)
      | (with_reducible refine e_o2 rfl q6' ?_)
      | (with_reducible refine e_ip (show i32 1 = 1 from rfl) ?_))
    exact q7
  · by_cases c5 : kd = 5
    · subst c5
      obtain ⟨C5, M5, q5, s5⟩ := sp_start (k := k) hk r ht hw b4' (by show 5 < 250; omega) s4'
      have b5 := b4'.app st.2
      have ll : ([bt (i32 5), bt (i32 fr), bt (i32 to)] ++ two (i32 t) ++ stB W t (W 0 0)).length = 5 + 2 * W 0 0 := by rw [List.length_append, st.1]; rfl
      obtain ⟨t51, -, t53⟩ := tE s5 b5 (by rw [ll]; omega)
      obtain ⟨C6, M6, q6, s6⟩ := sp_two (k := k) s5 b5 (by rw [ll]; omega) hw (i32 (W 6 t))
      have b6 := b5.app (two_by (i32 (W 6 t)))
      have ll6 : ([bt (i32 5), bt (i32 fr), bt (i32 to)] ++ two (i32 t) ++ stB W t (W 0 0) ++ two (i32 (W 6 t))).length = 7 + 2 * W 0 0 := by rw [List.length_append, ll]; show _ + 2 = _; omega
      obtain ⟨C7, M7, q7, s7⟩ := sp_wr (k := k) (to := to) hk r ht hw b6 (by rw [ll6]; omega) s6
      have ob := obB_l W 5 t (pB W 5 to t) 20
      have hc := ct_le (pB W 5 to t) 20
      have b7 : By ([bt (i32 5), bt (i32 fr), bt (i32 to)] ++ two (i32 t) ++ stB W t (W 0 0) ++ two (i32 (W 6 t)) ++ (ct (pB W 5 to t) 20 :: obB W 5 t (pB W 5 to t) 20)) := b6.app ((By.one (show ct (pB W 5 to t) 20 < 256 by omega)).app ob.2)
      have ll7 : ([bt (i32 5), bt (i32 fr), bt (i32 to)] ++ two (i32 t) ++ stB W t (W 0 0) ++ two (i32 (W 6 t)) ++ (ct (pB W 5 to t) 20 :: obB W 5 t (pB W 5 to t) 20)).length ≤ 8 + 2 * W 0 0 + 100 := by rw [List.length_append, ll6, List.length_cons]; omega
      obtain ⟨C8, M8, q8, s8⟩ := sp_ch (k := k) hk r ht hw b7 (by omega) s7
      have cb := chB_l W t (W 17 t)
      obtain ⟨C9, M9, q9, s9⟩ := fin s8 (b7.app ((By.one (bt_lt (i32 (W 17 t)))).app cb.2)) (by rw [List.length_append, List.length_cons, cb.1]; omega) (by
        unfold allB bodyB
        rw [if_neg (by omega), if_pos rfl]
        simp only [List.append_assoc])
      refine ⟨C9, M9, ?_, s9⟩
      have h5 := s5.1
      have h6 := s6.1
      have h7 := s7.1
      have h8 := s8.1
      unfold fX4_spell
      rw [← t32] at q4
      rw [← t53] at q6
      have n51 : ¬ i32 5 = 1 := by decide
      repeat (first
      | (with_reducible refine e_ip (kB h) ?_)
      | (with_reducible refine e_o1 (p_f h) ?_)
      | (with_reducible refine e_ip (kF h) ?_)
      | (with_reducible refine e_ip (kB h1) ?_)
      | (with_reducible refine e_o1 (p_f h1) ?_)
      | (with_reducible refine e_ip (kF h1) ?_)
      | (with_reducible refine e_ip (kB h2) ?_)
      | (with_reducible refine e_o1 (p_f h2) ?_)
      | (with_reducible refine e_ip (kF h2) ?_)
      | (with_reducible refine e_ip (kB h3) ?_)
      | (with_reducible refine e_o1 (p_f h3) ?_)
      | (with_reducible refine e_ip (kF h3) ?_)
      | (with_reducible refine e_ip (kB h4) ?_)
      | (with_reducible refine e_o1 (p_f h4) ?_)
      | (with_reducible refine e_ip (kF h4) ?_)
      | (with_reducible refine e_ip (kB h5) ?_)
      | (with_reducible refine e_o1 (p_f h5) ?_)
      | (with_reducible refine e_ip (kF h5) ?_)
      | (with_reducible refine e_ip (kB h6) ?_)
      | (with_reducible refine e_o1 (p_f h6) ?_)
      | (with_reducible refine e_ip (kF h6) ?_)
      | (with_reducible refine e_ip (kB h7) ?_)
      | (with_reducible refine e_o1 (p_f h7) ?_)
      | (with_reducible refine e_ip (kF h7) ?_)
      | (with_reducible refine e_ip l1 ?_)
      | (with_reducible refine e_ip l2 ?_)
      | (with_reducible refine e_ip l3 ?_)
      | (with_reducible refine e_ip l5 ?_)
      | (with_reducible refine e_ip t31 ?_)
      | (with_reducible refine e_ip t51 ?_)
      | (with_reducible refine e_o2 rfl x0 ?_)
      | (with_reducible refine e_o2 rfl q1 ?_)
      | (with_reducible refine e_o2 rfl x1 ?_)
      | (with_reducible refine e_o2 rfl q2 ?_)
      | (with_reducible refine e_o2 rfl x2 ?_)
      | (with_reducible refine e_o2 rfl q3 ?_)
      | (with_reducible refine e_o2 rfl q4 ?_)
      | (with_reducible refine e_o2 rfl x5 ?_)
      | (with_reducible refine e_o2 rfl q5 ?_)
      | (with_reducible refine e_o2 rfl q6 ?_)
      | (with_reducible refine e_o2 rfl q7 ?_)
      | (with_reducible refine e_o2 rfl q8 ?_)
      | (with_reducible refine e_in n51 ?_)
      | (with_reducible refine e_ip (show i32 5 = 5 from rfl) ?_))
      exact q9
    · obtain ⟨C9, M9, q9, s9⟩ := fin s4' b4' (by show 5 < 290; omega) (by
        unfold allB bodyB
        rw [if_neg c1, if_neg c5, List.append_nil])
      refine ⟨C9, M9, ?_, s9⟩
      unfold fX4_spell
      rw [← t32] at q4
      have n1 : ¬ i32 kd = 1 := by rw [show (1 : Int32) = i32 1 from rfl, i_eq (by omega) (by omega)]; exact c1
      have n5 : ¬ i32 kd = 5 := by rw [show (5 : Int32) = i32 5 from rfl, i_eq (by omega) (by omega)]; exact c5
      repeat (first
      | (with_reducible refine e_ip (kB h) ?_)
      | (with_reducible refine e_o1 (p_f h) ?_)
      | (with_reducible refine e_ip (kF h) ?_)
      | (with_reducible refine e_ip (kB h1) ?_)
      | (with_reducible refine e_o1 (p_f h1) ?_)
      | (with_reducible refine e_ip (kF h1) ?_)
      | (with_reducible refine e_ip (kB h2) ?_)
      | (with_reducible refine e_o1 (p_f h2) ?_)
      | (with_reducible refine e_ip (kF h2) ?_)
      | (with_reducible refine e_ip (kB h3) ?_)
      | (with_reducible refine e_o1 (p_f h3) ?_)
      | (with_reducible refine e_ip (kF h3) ?_)
      | (with_reducible refine e_ip (kB h4) ?_)
      | (with_reducible refine e_o1 (p_f h4) ?_)
      | (with_reducible refine e_ip (kF h4) ?_)
      | (with_reducible refine e_ip l1 ?_)
      | (with_reducible refine e_ip l2 ?_)
      | (with_reducible refine e_ip l3 ?_)
      | (with_reducible refine e_ip l5 ?_)
      | (with_reducible refine e_ip t31 ?_)
      | (with_reducible refine e_o2 rfl x0 ?_)
      | (with_reducible refine e_o2 rfl q1 ?_)
      | (with_reducible refine e_o2 rfl x1 ?_)
      | (with_reducible refine e_o2 rfl q2 ?_)
      | (with_reducible refine e_o2 rfl x2 ?_)
      | (with_reducible refine e_o2 rfl q3 ?_)
      | (with_reducible refine e_o2 rfl q4 ?_)
      | (with_reducible refine e_o2 rfl x5 ?_)
      | (with_reducible refine e_in n1 ?_)
      | (with_reducible refine e_in n5 ?_))
      exact q9
/-- what the law needs of a call -/
def SimW {α : Type} (x : Cx) (B e : Nat) (fc : Mm → Option ((Nat ⊕ α) × Mm)) (fm : Mm → Option (α × Mm)) (C W : Ab) (M : Mm) : Prop :=
  (∃ c, (c = 1 ∨ c = 2 ∧ e = 2) ∧ fc M = some (.inl c, M) ∧ ∃ W', W' 0 27 = c ∧ Inv W' ∧ (∀ n z, Rl (U (U C 73 0 n) 73 1 z) W') ∧ ∀ C1 M1, St x B C1 W M1 → ∃ rr M2, fm M1 = some (rr, M2) ∧ St x B C1 W' M2) ∨
  (∃ v C' M', fc M = some (.inr v, M') ∧ St x B C' W M' ∧ (pX C' ≤ pX C + 609 ∧ pZ C' ≤ pZ C + 1290) ∧ ∀ C1 M1, St x B C1 W M1 → ∃ W' M2, fm M1 = some (v, M2) ∧ St x B C1 W' M2 ∧ Rl C' W' ∧ Inv W' ∧ W' 0 27 = 0)
theorem Sim.w {α : Type} {e : Nat} {fc : Mm → Option ((Nat ⊕ α) × Mm)} {fm : Mm → Option (α × Mm)} (s : Sim x B e fc fm C W M) : SimW x B e fc fm C W M := by
  rcases s with ⟨c, h1, h2, W', h3, -, h5, h6, h7⟩ | ⟨v, C', W', M', h1, h2, h3, h4, h5, h6, h7⟩
  · exact Or.inl ⟨c, h1, h2, W', h3, h5, h6, h7⟩
  · exact Or.inr ⟨v, C', M', h1, h2, h6, fun C1 M1 q => by
      obtain ⟨M2, e1, e2⟩ := h7 C1 M1 q
      exact ⟨W', M2, e1, e2, h3, h4, h5⟩⟩
theorem rl_pg {W' : Ab} (r : Rl C W) (g : ∀ i j, i ≠ 21 → i ≠ 0 ∨ j ≠ 26 → W' i j = W i j) : Rl C W' := by
  have q2 := r.q.2.1
  refine ⟨r.q, ⟨?_, ?_, ?_, ?_⟩, fun s' hs' => ?_, fun s' hs' => ?_, fun u hu => ?_, fun j q hj hq => ?_, ?_⟩
  · rw [g _ _ (by omega) (by omega)]; exact r.s.1
  · rw [g _ _ (by omega) (by omega)]; exact r.s.2.1
  · rw [g _ _ (by omega) (by omega)]; exact r.s.2.2.1
  · rw [g _ _ (by omega) (by omega)]; exact r.s.2.2.2
  · exact (r.p hs').fr rfl (fun j hj => rfl) (fun j hj => rfl) (g _ _ (by omega) (by omega)) (fun j hj => g _ _ (by omega) (by omega)) (fun j hj => g _ _ (by omega) (by omega))
  · exact (r.a hs').fr rfl (fun j => rfl) (g _ _ (by omega) (by omega)) (g _ _ (by omega) (by omega)) (fun j => g _ _ (by omega) (by omega))
  · rw [g _ _ (by omega) (by omega)] at hu
    exact (r.t hu).fr (fun a j h1 h2 => rfl) (fun i hi => g _ _ (by omega) (by omega)) (fun i j hi hj => g _ _ (by omega) (by omega)) (fun i j hi hj => g _ _ (by omega) (by omega)) (r.b17 hu)
  · rw [g _ _ (by omega) (by omega)] at hj
    rw [g _ _ (by omega) (by omega)]; exact r.l j q hj hq
  · rw [g _ _ (by omega) (by omega)]; exact r.z
theorem sim_byte (hk : 5000 ≤ k) (h : St x B C W M) (r : Rl C W) (i : Inv W) (rx : Rx x C) {j w : Nat} (hj : j < 4294967296) (hw : w < 4294967296) : SimW x B 1 (fX4_byteOf x k B (i32 j) (i32 w)) (fX5_byteOf x k (B + 25) (i32 j) (i32 w)) C W M := by
  have e23 := r.s.2.2.2
  have b := i.1
  have rm := rx.rm
  have hb := b.1
  by_cases c1 : j < W 0 23
  · have c1' : j < C 60 1 := by omega
    have q1 := c_let1 (k := k) h r.q c1'
    have q2 := c_get1 (k := k) h c1'
    have hL := st_L h c1'
    have kl := hL.2.1
    obtain ⟨o1, o2, o3, o4, -⟩ := i.2.2.2.2.1 j c1
    obtain ⟨kd, ekd⟩ : ∃ kd, W 20 (4 * j) = kd := ⟨_, rfl⟩
    obtain ⟨fr, efr⟩ : ∃ fr, W 20 (4 * j + 1) = fr := ⟨_, rfl⟩
    obtain ⟨to, eto⟩ : ∃ to, W 20 (4 * j + 2) = to := ⟨_, rfl⟩
    obtain ⟨t, et⟩ : ∃ t, W 20 (4 * j + 3) = t := ⟨_, rfl⟩
    rw [ekd] at o1
    rw [eto] at o3
    rw [et] at o4
    have h1 := suF h 0 w
    have h2 := suF h1 1 0
    have h3 := suF h2 2 0
    have h4 := suF h3 3 4294967295
    have s0 : Sp x B C W w [] (U (U (U (U C 24 0 w) 24 1 0) 24 2 0) 24 3 4294967295) (sV (sV (sV (sV M (B + 24) 0 (i32 w)) (B + 24) 1 (i32 0)) (B + 24) 2 (i32 0)) (B + 24) 3 (i32 4294967295)) := by
      refine ⟨h4, ⟨fun a q ha => ?_, ?_, ?_, ?_, ?_⟩, fun q hq => ?_⟩
      · rw [U_r _ ha, U_r _ ha, U_r _ ha, U_r _ ha]
      · simp (disch := omega) only [U_ne, U_s]
      · simp (disch := omega) only [U_ne, U_s]; rfl
      · simp (disch := omega) only [U_ne, U_s]; rfl
      · rw [U_s]; rfl
      · simp (disch := omega) only [U_ne]; exact cbF r.q q
    have q3 : fX0_lookFor x k (B + 24) (i32 w) M = some ((), sV (sV (sV (sV M (B + 24) 0 (i32 w)) (B + 24) 1 (i32 0)) (B + 24) 2 (i32 0)) (B + 24) 3 (i32 4294967295)) := by
      unfold fX0_lookFor
      repeat (first
        | (with_reducible refine e_l1 ?_)
        | ((with_reducible refine e_k ?_ (kB h) ?_); focus rfl)
        | ((with_reducible refine e_p ?_ (p_s h) ?_); focus rfl)
        | ((with_reducible refine e_p ?_ (p_t h) ?_); focus rfl)
        | ((with_reducible refine e_p ?_ (p_l h) ?_); focus rfl)
        | ((with_reducible refine e_p ?_ (p_f h) ?_); focus rfl)
        | ((with_reducible apply e_o1); focus (simp (disch := omega) only [b_all, sV_all, ↓reduceIte, Nat.reduceEqDiff, Nat.reduceLT, Nat.reduceLeDiff, Nat.reduceAdd, Nat.reduceMul, Nat.reduceSub, i_lit, eq_self, and_true, true_and, and_self, not_true_eq_false, not_false_eq_true, or_true, true_or, or_false, false_or, false_and, and_false, reduceCtorEq, Nat.add_left_cancel_iff, Nat.add_zero, Nat.zero_add, cd_all h]; first | done | rfl))
        | ((with_reducible refine e_ip ?_ ?_); focus (simp (disch := omega) only [b_all, sV_all, ↓reduceIte, Nat.reduceEqDiff, Nat.reduceLT, Nat.reduceLeDiff, Nat.reduceAdd, Nat.reduceMul, Nat.reduceSub, i_lit, eq_self, and_true, true_and, and_self, not_true_eq_false, not_false_eq_true, or_true, true_or, or_false, false_or, false_and, and_false, reduceCtorEq, Nat.add_left_cancel_iff, Nat.add_zero, Nat.zero_add, cd_all h]; done))
        | ((with_reducible refine e_in ?_ ?_); focus (simp (disch := omega) only [b_all, sV_all, ↓reduceIte, Nat.reduceEqDiff, Nat.reduceLT, Nat.reduceLeDiff, Nat.reduceAdd, Nat.reduceMul, Nat.reduceSub, i_lit, eq_self, and_true, true_and, and_self, not_true_eq_false, not_false_eq_true, or_true, true_or, or_false, false_or, false_and, and_false, reduceCtorEq, Nat.add_left_cancel_iff, Nat.add_zero, Nat.zero_add, cd_all h]; done))
        | fail)
      first | with_reducible rfl | simp (disch := omega) only [b_all, sV_all, ↓reduceIte, Nat.reduceEqDiff, Nat.reduceLT, Nat.reduceLeDiff, Nat.reduceAdd, Nat.reduceMul, Nat.reduceSub, i_lit, eq_self, and_true, true_and, and_self, not_true_eq_false, not_false_eq_true, or_true, true_or, or_false, false_or, false_and, and_false, reduceCtorEq, Nat.add_left_cancel_iff, Nat.add_zero, Nat.zero_add, cd_all h]
    generalize sV (sV (sV (sV M (B + 24) 0 (i32 w)) (B + 24) 1 (i32 0)) (B + 24) 2 (i32 0)) (B + 24) 3 (i32 4294967295) = M1 at *
    generalize U (U (U (U C 24 0 w) 24 1 0) 24 2 0) 24 3 4294967295 = C1 at *
    have r1 := s0.rl r By.nil (by show 0 < 300; omega) hw
    obtain ⟨l1, lv1⟩ := sp_let r s0 c1
    have x3 : fX1_transaction x k (C 71 j) M1 = some (i32 t, M1) := l_tx l1 (by rw [lv1 3 (by omega), et])
    have g2 := c_get0 (k := k) h4 r1.q (r1.c o4)
    have e70 : C1 70 t = C 70 t := s0.2.1.1 _ _ (by omega)
    rw [e70] at g2
    have kt : mK M1 (C 70 t) = 4 := by have := kT h4 (r1.c o4); rw [e70] at this; exact this
    obtain ⟨C2, M2, q4, s2⟩ := sp_spell (k := k) hk r hw c1 ekd efr eto o1 (by omega) o4 s0
    have h5 := s2.1
    have p3 := s2.2.1.2.2.2.2
    have bl := body_l (W := W) (kd := kd) (to := to) ⟨hb.1, hb.2.1⟩ (r.b17 o4)
    have bA : By (allB W kd fr to t) := ((((By.one (bt_lt _)).app ((By.one (bt_lt _)).app (By.one (bt_lt _)))).app (two_by _)).app bl.2 : By ([bt (i32 kd), bt (i32 fr), bt (i32 to)] ++ two (i32 t) ++ bodyB W kd to t))
    have bT := bA.app (two_by (i32 (chk (allB W kd fr to t))))
    have lT : (allB W kd fr to t ++ two (i32 (chk (allB W kd fr to t)))).length < 300 := by
      rw [List.length_append]
      unfold allB
      rw [List.length_append]
      show 5 + _ + 2 < 300
      omega
    have r2 := s2.rl r bT lT hw
    have f2 := s2.2.1.1
    refine Or.inr ⟨i32 (fnd (allB W kd fr to t ++ two (i32 (chk (allB W kd fr to t)))) w), C2, M2, ?_, h5, ⟨?_, ?_⟩, fun C3 M3 h3' => ?_⟩
    · unfold fX4_byteOf
      repeat (first
        | (with_reducible refine e_l1 ?_)
        | ((with_reducible refine e_k ?_ (kB h) ?_); focus rfl)
        | ((with_reducible refine e_p ?_ (p_s h) ?_); focus rfl)
        | ((with_reducible refine e_p ?_ (p_t h) ?_); focus rfl)
        | ((with_reducible refine e_p ?_ (p_l h) ?_); focus rfl)
        | ((with_reducible refine e_p ?_ (p_f h) ?_); focus rfl)
        | ((with_reducible refine e_k ?_ (kB h4) ?_); focus rfl)
        | ((with_reducible refine e_p ?_ (p_s h4) ?_); focus rfl)
        | ((with_reducible refine e_p ?_ (p_t h4) ?_); focus rfl)
        | ((with_reducible refine e_p ?_ (p_l h4) ?_); focus rfl)
        | ((with_reducible refine e_p ?_ (p_f h4) ?_); focus rfl)
        | ((with_reducible refine e_k ?_ (kB h5) ?_); focus rfl)
        | ((with_reducible refine e_p ?_ (p_s h5) ?_); focus rfl)
        | ((with_reducible refine e_p ?_ (p_t h5) ?_); focus rfl)
        | ((with_reducible refine e_p ?_ (p_l h5) ?_); focus rfl)
        | ((with_reducible refine e_p ?_ (p_f h5) ?_); focus rfl)
        | ((with_reducible refine e_o2 ?_ q1 ?_); focus (first | with_reducible rfl | (simp (disch := omega) only [b_all, sV_all, ↓reduceIte, Nat.reduceEqDiff, Nat.reduceLT, Nat.reduceLeDiff, Nat.reduceAdd, Nat.reduceMul, Nat.reduceSub, i_lit, eq_self, and_true, true_and, and_self, not_true_eq_false, not_false_eq_true, or_true, true_or, or_false, false_or, false_and, and_false, reduceCtorEq, Nat.add_left_cancel_iff, Nat.add_zero, Nat.zero_add, cd_all h, cd_all h4, cd_all h5, kl, l1, kt, p3]; done)))
        | ((with_reducible refine e_o2 ?_ q2 ?_); focus (first | with_reducible rfl | (simp (disch := omega) only [b_all, sV_all, ↓reduceIte, Nat.reduceEqDiff, Nat.reduceLT, Nat.reduceLeDiff, Nat.reduceAdd, Nat.reduceMul, Nat.reduceSub, i_lit, eq_self, and_true, true_and, and_self, not_true_eq_false, not_false_eq_true, or_true, true_or, or_false, false_or, false_and, and_false, reduceCtorEq, Nat.add_left_cancel_iff, Nat.add_zero, Nat.zero_add, cd_all h, cd_all h4, cd_all h5, kl, l1, kt, p3]; done)))
        | ((with_reducible refine e_o2 ?_ q3 ?_); focus (first | with_reducible rfl | (simp (disch := omega) only [b_all, sV_all, ↓reduceIte, Nat.reduceEqDiff, Nat.reduceLT, Nat.reduceLeDiff, Nat.reduceAdd, Nat.reduceMul, Nat.reduceSub, i_lit, eq_self, and_true, true_and, and_self, not_true_eq_false, not_false_eq_true, or_true, true_or, or_false, false_or, false_and, and_false, reduceCtorEq, Nat.add_left_cancel_iff, Nat.add_zero, Nat.zero_add, cd_all h, cd_all h4, cd_all h5, kl, l1, kt, p3]; done)))
        | ((with_reducible refine e_o2 ?_ x3 ?_); focus (first | with_reducible rfl | (simp (disch := omega) only [b_all, sV_all, ↓reduceIte, Nat.reduceEqDiff, Nat.reduceLT, Nat.reduceLeDiff, Nat.reduceAdd, Nat.reduceMul, Nat.reduceSub, i_lit, eq_self, and_true, true_and, and_self, not_true_eq_false, not_false_eq_true, or_true, true_or, or_false, false_or, false_and, and_false, reduceCtorEq, Nat.add_left_cancel_iff, Nat.add_zero, Nat.zero_add, cd_all h, cd_all h4, cd_all h5, kl, l1, kt, p3]; done)))
        | ((with_reducible refine e_o2 ?_ g2 ?_); focus (first | with_reducible rfl | (simp (disch := omega) only [b_all, sV_all, ↓reduceIte, Nat.reduceEqDiff, Nat.reduceLT, Nat.reduceLeDiff, Nat.reduceAdd, Nat.reduceMul, Nat.reduceSub, i_lit, eq_self, and_true, true_and, and_self, not_true_eq_false, not_false_eq_true, or_true, true_or, or_false, false_or, false_and, and_false, reduceCtorEq, Nat.add_left_cancel_iff, Nat.add_zero, Nat.zero_add, cd_all h, cd_all h4, cd_all h5, kl, l1, kt, p3]; done)))
        | ((with_reducible refine e_o2 ?_ q4 ?_); focus (first | with_reducible rfl | (simp (disch := omega) only [b_all, sV_all, ↓reduceIte, Nat.reduceEqDiff, Nat.reduceLT, Nat.reduceLeDiff, Nat.reduceAdd, Nat.reduceMul, Nat.reduceSub, i_lit, eq_self, and_true, true_and, and_self, not_true_eq_false, not_false_eq_true, or_true, true_or, or_false, false_or, false_and, and_false, reduceCtorEq, Nat.add_left_cancel_iff, Nat.add_zero, Nat.zero_add, cd_all h, cd_all h4, cd_all h5, kl, l1, kt, p3]; done)))
        | ((with_reducible refine e_T ?_ q1 ?_); focus (first | with_reducible rfl | (simp (disch := omega) only [b_all, sV_all, ↓reduceIte, Nat.reduceEqDiff, Nat.reduceLT, Nat.reduceLeDiff, Nat.reduceAdd, Nat.reduceMul, Nat.reduceSub, i_lit, eq_self, and_true, true_and, and_self, not_true_eq_false, not_false_eq_true, or_true, true_or, or_false, false_or, false_and, and_false, reduceCtorEq, Nat.add_left_cancel_iff, Nat.add_zero, Nat.zero_add, cd_all h, cd_all h4, cd_all h5, kl, l1, kt, p3]; done)))
        | ((with_reducible refine e_X ?_ q1 ?_); focus (first | with_reducible rfl | (simp (disch := omega) only [b_all, sV_all, ↓reduceIte, Nat.reduceEqDiff, Nat.reduceLT, Nat.reduceLeDiff, Nat.reduceAdd, Nat.reduceMul, Nat.reduceSub, i_lit, eq_self, and_true, true_and, and_self, not_true_eq_false, not_false_eq_true, or_true, true_or, or_false, false_or, false_and, and_false, reduceCtorEq, Nat.add_left_cancel_iff, Nat.add_zero, Nat.zero_add, cd_all h, cd_all h4, cd_all h5, kl, l1, kt, p3]; done)))
        | ((with_reducible refine e_T ?_ q2 ?_); focus (first | with_reducible rfl | (simp (disch := omega) only [b_all, sV_all, ↓reduceIte, Nat.reduceEqDiff, Nat.reduceLT, Nat.reduceLeDiff, Nat.reduceAdd, Nat.reduceMul, Nat.reduceSub, i_lit, eq_self, and_true, true_and, and_self, not_true_eq_false, not_false_eq_true, or_true, true_or, or_false, false_or, false_and, and_false, reduceCtorEq, Nat.add_left_cancel_iff, Nat.add_zero, Nat.zero_add, cd_all h, cd_all h4, cd_all h5, kl, l1, kt, p3]; done)))
        | ((with_reducible refine e_X ?_ q2 ?_); focus (first | with_reducible rfl | (simp (disch := omega) only [b_all, sV_all, ↓reduceIte, Nat.reduceEqDiff, Nat.reduceLT, Nat.reduceLeDiff, Nat.reduceAdd, Nat.reduceMul, Nat.reduceSub, i_lit, eq_self, and_true, true_and, and_self, not_true_eq_false, not_false_eq_true, or_true, true_or, or_false, false_or, false_and, and_false, reduceCtorEq, Nat.add_left_cancel_iff, Nat.add_zero, Nat.zero_add, cd_all h, cd_all h4, cd_all h5, kl, l1, kt, p3]; done)))
        | ((with_reducible refine e_T ?_ q3 ?_); focus (first | with_reducible rfl | (simp (disch := omega) only [b_all, sV_all, ↓reduceIte, Nat.reduceEqDiff, Nat.reduceLT, Nat.reduceLeDiff, Nat.reduceAdd, Nat.reduceMul, Nat.reduceSub, i_lit, eq_self, and_true, true_and, and_self, not_true_eq_false, not_false_eq_true, or_true, true_or, or_false, false_or, false_and, and_false, reduceCtorEq, Nat.add_left_cancel_iff, Nat.add_zero, Nat.zero_add, cd_all h, cd_all h4, cd_all h5, kl, l1, kt, p3]; done)))
        | ((with_reducible refine e_X ?_ q3 ?_); focus (first | with_reducible rfl | (simp (disch := omega) only [b_all, sV_all, ↓reduceIte, Nat.reduceEqDiff, Nat.reduceLT, Nat.reduceLeDiff, Nat.reduceAdd, Nat.reduceMul, Nat.reduceSub, i_lit, eq_self, and_true, true_and, and_self, not_true_eq_false, not_false_eq_true, or_true, true_or, or_false, false_or, false_and, and_false, reduceCtorEq, Nat.add_left_cancel_iff, Nat.add_zero, Nat.zero_add, cd_all h, cd_all h4, cd_all h5, kl, l1, kt, p3]; done)))
        | ((with_reducible refine e_T ?_ x3 ?_); focus (first | with_reducible rfl | (simp (disch := omega) only [b_all, sV_all, ↓reduceIte, Nat.reduceEqDiff, Nat.reduceLT, Nat.reduceLeDiff, Nat.reduceAdd, Nat.reduceMul, Nat.reduceSub, i_lit, eq_self, and_true, true_and, and_self, not_true_eq_false, not_false_eq_true, or_true, true_or, or_false, false_or, false_and, and_false, reduceCtorEq, Nat.add_left_cancel_iff, Nat.add_zero, Nat.zero_add, cd_all h, cd_all h4, cd_all h5, kl, l1, kt, p3]; done)))
        | ((with_reducible refine e_X ?_ x3 ?_); focus (first | with_reducible rfl | (simp (disch := omega) only [b_all, sV_all, ↓reduceIte, Nat.reduceEqDiff, Nat.reduceLT, Nat.reduceLeDiff, Nat.reduceAdd, Nat.reduceMul, Nat.reduceSub, i_lit, eq_self, and_true, true_and, and_self, not_true_eq_false, not_false_eq_true, or_true, true_or, or_false, false_or, false_and, and_false, reduceCtorEq, Nat.add_left_cancel_iff, Nat.add_zero, Nat.zero_add, cd_all h, cd_all h4, cd_all h5, kl, l1, kt, p3]; done)))
        | ((with_reducible refine e_T ?_ g2 ?_); focus (first | with_reducible rfl | (simp (disch := omega) only [b_all, sV_all, ↓reduceIte, Nat.reduceEqDiff, Nat.reduceLT, Nat.reduceLeDiff, Nat.reduceAdd, Nat.reduceMul, Nat.reduceSub, i_lit, eq_self, and_true, true_and, and_self, not_true_eq_false, not_false_eq_true, or_true, true_or, or_false, false_or, false_and, and_false, reduceCtorEq, Nat.add_left_cancel_iff, Nat.add_zero, Nat.zero_add, cd_all h, cd_all h4, cd_all h5, kl, l1, kt, p3]; done)))
        | ((with_reducible refine e_X ?_ g2 ?_); focus (first | with_reducible rfl | (simp (disch := omega) only [b_all, sV_all, ↓reduceIte, Nat.reduceEqDiff, Nat.reduceLT, Nat.reduceLeDiff, Nat.reduceAdd, Nat.reduceMul, Nat.reduceSub, i_lit, eq_self, and_true, true_and, and_self, not_true_eq_false, not_false_eq_true, or_true, true_or, or_false, false_or, false_and, and_false, reduceCtorEq, Nat.add_left_cancel_iff, Nat.add_zero, Nat.zero_add, cd_all h, cd_all h4, cd_all h5, kl, l1, kt, p3]; done)))
        | ((with_reducible refine e_T ?_ q4 ?_); focus (first | with_reducible rfl | (simp (disch := omega) only [b_all, sV_all, ↓reduceIte, Nat.reduceEqDiff, Nat.reduceLT, Nat.reduceLeDiff, Nat.reduceAdd, Nat.reduceMul, Nat.reduceSub, i_lit, eq_self, and_true, true_and, and_self, not_true_eq_false, not_false_eq_true, or_true, true_or, or_false, false_or, false_and, and_false, reduceCtorEq, Nat.add_left_cancel_iff, Nat.add_zero, Nat.zero_add, cd_all h, cd_all h4, cd_all h5, kl, l1, kt, p3]; done)))
        | ((with_reducible refine e_X ?_ q4 ?_); focus (first | with_reducible rfl | (simp (disch := omega) only [b_all, sV_all, ↓reduceIte, Nat.reduceEqDiff, Nat.reduceLT, Nat.reduceLeDiff, Nat.reduceAdd, Nat.reduceMul, Nat.reduceSub, i_lit, eq_self, and_true, true_and, and_self, not_true_eq_false, not_false_eq_true, or_true, true_or, or_false, false_or, false_and, and_false, reduceCtorEq, Nat.add_left_cancel_iff, Nat.add_zero, Nat.zero_add, cd_all h, cd_all h4, cd_all h5, kl, l1, kt, p3]; done)))
        | ((with_reducible apply e_o1); focus (simp (disch := omega) only [b_all, sV_all, ↓reduceIte, Nat.reduceEqDiff, Nat.reduceLT, Nat.reduceLeDiff, Nat.reduceAdd, Nat.reduceMul, Nat.reduceSub, i_lit, eq_self, and_true, true_and, and_self, not_true_eq_false, not_false_eq_true, or_true, true_or, or_false, false_or, false_and, and_false, reduceCtorEq, Nat.add_left_cancel_iff, Nat.add_zero, Nat.zero_add, cd_all h, cd_all h4, cd_all h5, kl, l1, kt, p3]; first | done | rfl))
        | ((with_reducible refine e_ip ?_ ?_); focus (simp (disch := omega) only [b_all, sV_all, ↓reduceIte, Nat.reduceEqDiff, Nat.reduceLT, Nat.reduceLeDiff, Nat.reduceAdd, Nat.reduceMul, Nat.reduceSub, i_lit, eq_self, and_true, true_and, and_self, not_true_eq_false, not_false_eq_true, or_true, true_or, or_false, false_or, false_and, and_false, reduceCtorEq, Nat.add_left_cancel_iff, Nat.add_zero, Nat.zero_add, cd_all h, cd_all h4, cd_all h5, kl, l1, kt, p3]; done))
        | ((with_reducible refine e_in ?_ ?_); focus (simp (disch := omega) only [b_all, sV_all, ↓reduceIte, Nat.reduceEqDiff, Nat.reduceLT, Nat.reduceLeDiff, Nat.reduceAdd, Nat.reduceMul, Nat.reduceSub, i_lit, eq_self, and_true, true_and, and_self, not_true_eq_false, not_false_eq_true, or_true, true_or, or_false, false_or, false_and, and_false, reduceCtorEq, Nat.add_left_cancel_iff, Nat.add_zero, Nat.zero_add, cd_all h, cd_all h4, cd_all h5, kl, l1, kt, p3]; done))
        | fail)
      first | with_reducible rfl | simp (disch := omega) only [b_all, sV_all, ↓reduceIte, Nat.reduceEqDiff, Nat.reduceLT, Nat.reduceLeDiff, Nat.reduceAdd, Nat.reduceMul, Nat.reduceSub, i_lit, eq_self, and_true, true_and, and_self, not_true_eq_false, not_false_eq_true, or_true, true_or, or_false, false_or, false_and, and_false, reduceCtorEq, Nat.add_left_cancel_iff, Nat.add_zero, Nat.zero_add, cd_all h, cd_all h4, cd_all h5, kl, l1, kt, p3]
    · unfold pX; rw [f2 _ _ (by omega), f2 _ _ (by omega)]; omega
    · unfold pZ; rw [f2 _ _ (by omega), f2 _ _ (by omega), f2 _ _ (by omega), f2 _ _ (by omega)]; omega
    · obtain ⟨W3, M4, e, h6, g⟩ := m_byte_ok (k := k) hk h3' b hw c1 ekd efr eto et o1 (by omega) (by omega)
      have hbW : Bd W3 := by
        have g0 : ∀ q, q ≠ 26 → W3 0 q = t0 W 0 q := fun q hq => g.1 _ _ (by omega) (by omega)
        refine ⟨by rw [g0 _ (by omega), g0 _ (by omega), g0 _ (by omega), g0 _ (by omega)]; exact b.t0.1, fun a q ha => ?_⟩
        by_cases z : a = 21
        · rw [z]; exact g.2.2.2 q
        · rw [g.1 _ _ z (by omega)]; exact b.t0.2 a q ha
      refine ⟨W3, M4, e, h6, rl_pg (rl_t0 r2) g.1, (inv_t0 i).dm hbW (fun a q _ hn => g.1 _ _ (fun z => hn (by unfold dm; omega)) (by unfold dm at hn; omega)), ?_⟩
      rw [g.1 _ _ (by omega) (by omega)]; exact t0_27 W
  · have q1 := c_let0 (k := k) h r.q rm hj (by omega)
    refine Sim.w (simX1 r i ?_ (fun C1 M1 h1 => m_byte_iae (k := k) h1 b hj c1))
    unfold fX4_byteOf
    repeat (first
      | (with_reducible refine e_l1 ?_)
      | ((with_reducible refine e_k ?_ (kB h) ?_); focus rfl)
      | ((with_reducible refine e_p ?_ (p_s h) ?_); focus rfl)
      | ((with_reducible refine e_p ?_ (p_t h) ?_); focus rfl)
      | ((with_reducible refine e_p ?_ (p_l h) ?_); focus rfl)
      | ((with_reducible refine e_p ?_ (p_f h) ?_); focus rfl)
      | ((with_reducible refine e_o2 ?_ q1 ?_); focus (first | with_reducible rfl | (simp (disch := omega) only [b_all, sV_all, ↓reduceIte, Nat.reduceEqDiff, Nat.reduceLT, Nat.reduceLeDiff, Nat.reduceAdd, Nat.reduceMul, Nat.reduceSub, i_lit, eq_self, and_true, true_and, and_self, not_true_eq_false, not_false_eq_true, or_true, true_or, or_false, false_or, false_and, and_false, reduceCtorEq, Nat.add_left_cancel_iff, Nat.add_zero, Nat.zero_add, cd_all h]; done)))
      | ((with_reducible refine e_T ?_ q1 ?_); focus (first | with_reducible rfl | (simp (disch := omega) only [b_all, sV_all, ↓reduceIte, Nat.reduceEqDiff, Nat.reduceLT, Nat.reduceLeDiff, Nat.reduceAdd, Nat.reduceMul, Nat.reduceSub, i_lit, eq_self, and_true, true_and, and_self, not_true_eq_false, not_false_eq_true, or_true, true_or, or_false, false_or, false_and, and_false, reduceCtorEq, Nat.add_left_cancel_iff, Nat.add_zero, Nat.zero_add, cd_all h]; done)))
      | ((with_reducible refine e_X ?_ q1 ?_); focus (first | with_reducible rfl | (simp (disch := omega) only [b_all, sV_all, ↓reduceIte, Nat.reduceEqDiff, Nat.reduceLT, Nat.reduceLeDiff, Nat.reduceAdd, Nat.reduceMul, Nat.reduceSub, i_lit, eq_self, and_true, true_and, and_self, not_true_eq_false, not_false_eq_true, or_true, true_or, or_false, false_or, false_and, and_false, reduceCtorEq, Nat.add_left_cancel_iff, Nat.add_zero, Nat.zero_add, cd_all h]; done)))
      | ((with_reducible apply e_o1); focus (simp (disch := omega) only [b_all, sV_all, ↓reduceIte, Nat.reduceEqDiff, Nat.reduceLT, Nat.reduceLeDiff, Nat.reduceAdd, Nat.reduceMul, Nat.reduceSub, i_lit, eq_self, and_true, true_and, and_self, not_true_eq_false, not_false_eq_true, or_true, true_or, or_false, false_or, false_and, and_false, reduceCtorEq, Nat.add_left_cancel_iff, Nat.add_zero, Nat.zero_add, cd_all h]; first | done | rfl))
      | ((with_reducible refine e_ip ?_ ?_); focus (simp (disch := omega) only [b_all, sV_all, ↓reduceIte, Nat.reduceEqDiff, Nat.reduceLT, Nat.reduceLeDiff, Nat.reduceAdd, Nat.reduceMul, Nat.reduceSub, i_lit, eq_self, and_true, true_and, and_self, not_true_eq_false, not_false_eq_true, or_true, true_or, or_false, false_or, false_and, and_false, reduceCtorEq, Nat.add_left_cancel_iff, Nat.add_zero, Nat.zero_add, cd_all h]; done))
      | ((with_reducible refine e_in ?_ ?_); focus (simp (disch := omega) only [b_all, sV_all, ↓reduceIte, Nat.reduceEqDiff, Nat.reduceLT, Nat.reduceLeDiff, Nat.reduceAdd, Nat.reduceMul, Nat.reduceSub, i_lit, eq_self, and_true, true_and, and_self, not_true_eq_false, not_false_eq_true, or_true, true_or, or_false, false_or, false_and, and_false, reduceCtorEq, Nat.add_left_cancel_iff, Nat.add_zero, Nat.zero_add, cd_all h]; done))
      | fail)
    first | with_reducible rfl | simp (disch := omega) only [b_all, sV_all, ↓reduceIte, Nat.reduceEqDiff, Nat.reduceLT, Nat.reduceLeDiff, Nat.reduceAdd, Nat.reduceMul, Nat.reduceSub, i_lit, eq_self, and_true, true_and, and_self, not_true_eq_false, not_false_eq_true, or_true, true_or, or_false, false_or, false_and, and_false, reduceCtorEq, Nat.add_left_cancel_iff, Nat.add_zero, Nat.zero_add, cd_all h]
end
