/-! The invariants over the calls, second part -/
section
variable {W W' : Ab}
theorem com_r (W : Ab) (t : Nat) {i j : Nat} (h5 : i = 5 ∨ i = 6 → j ≠ t) : wCom1 W t i j = W i j := by
  unfold wCom1; rw [U_ne _ (by omega), U_ne _ (by omega)]
theorem com_5 (W : Ab) (t : Nat) : wCom1 W t 5 t = 2 := by unfold wCom1; rw [U_ne _ (by omega), U_s]
theorem com_6 (W : Ab) (t : Nat) : wCom1 W t 6 t = W 1 (5 * W 4 t + W 4 t) + 1 := by unfold wCom1; rw [U_s]
theorem inv_commit (h : Inv W) {t : Nat} (ht : t < W 0 5) (hn : W 5 t ≠ 2) (hv : W 0 4 + 1 < 1073741824) : Inv (wCommits W t) := by
  obtain ⟨b, ⟨j1, j2, j3, j4, j5, j6, j7, j8, j9, j12⟩, r, a, l, iw⟩ := h
  have hb := b.1
  have ha := j8 t ht
  have h12 := j12.1 (5 * W 4 t + W 4 t)
  have t8 : ∀ s, s < 5 → W 8 (5 * t + s) = 0 := fun s hs => by
    by_cases z : W 8 (5 * t + s) = 0
    · exact z
    · exact absurd (j1 t s ht hs (by omega)).1 hn
  have t9 : ∀ s, s < 5 → W 9 (5 * t + s) = 0 := fun s hs => by
    by_cases z : W 9 (5 * t + s) = 0
    · exact z
    · exact absurd (j9 t s ht hs z).2.1 hn
  have c4 : wCom1 W t 4 t = W 4 t := com_r W t (by omega)
  have a0 : wApp (wCom1 W t) t (W 4 t) 0 0 = W 0 0 := by rw [wApp_0 _ _ _ (by omega), com_r W t (by omega)]
  have a5 : wApp (wCom1 W t) t (W 4 t) 0 5 = W 0 5 := by rw [wApp_0 _ _ _ (by omega), com_r W t (by omega)]
  have a23 : wApp (wCom1 W t) t (W 4 t) 0 23 = W 0 23 := by rw [wApp_0 _ _ _ (by omega), com_r W t (by omega)]
  have a4 : wApp (wCom1 W t) t (W 4 t) 0 4 = W 0 4 + 1 := by rw [wApp_04, com_r W t (by omega)]
  have er : ∀ i j, i ≠ 0 → i ≠ 1 → i ≠ 3 → i ≠ 5 → i ≠ 6 → i ≠ 8 → i ≠ 9 → wApp (wCom1 W t) t (W 4 t) i j = W i j := fun i j h0 h1 h3 h5 h6 h8 h9 => by
    rw [wApp_r _ _ _ ⟨h0, h1, h3, h8, h9⟩, com_r W t (by omega)]
  have e4 : ∀ j, wApp (wCom1 W t) t (W 4 t) 4 j = W 4 j := fun j => er _ _ (by omega) (by omega) (by omega) (by omega) (by omega) (by omega) (by omega)
  have e7 : ∀ j, wApp (wCom1 W t) t (W 4 t) 7 j = W 7 j := fun j => er _ _ (by omega) (by omega) (by omega) (by omega) (by omega) (by omega) (by omega)
  have e5t : wApp (wCom1 W t) t (W 4 t) 5 t = 2 := by rw [wApp_r _ _ _ (by omega), com_5]
  have e6t : wApp (wCom1 W t) t (W 4 t) 6 t = W 1 (5 * W 4 t + W 4 t) + 1 := by rw [wApp_r _ _ _ (by omega), com_6]
  have e5 : ∀ u, u ≠ t → wApp (wCom1 W t) t (W 4 t) 5 u = W 5 u := fun u hu => by rw [wApp_r _ _ _ (by omega), com_r W t (fun _ => hu)]
  have e6 : ∀ u, u ≠ t → wApp (wCom1 W t) t (W 4 t) 6 u = W 6 u := fun u hu => by rw [wApp_r _ _ _ (by omega), com_r W t (fun _ => hu)]
  have e1 : ∀ j, wApp (wCom1 W t) t (W 4 t) 1 j = if j = 5 * W 4 t + W 4 t then W 1 j + 1 else W 1 j := fun j => by rw [wApp_1, c4, com_r W t (by omega)]
  have e8 : ∀ j, wApp (wCom1 W t) t (W 4 t) 8 j = if j = 5 * t + W 4 t then W 0 4 + 1 else W 8 j := fun j => by rw [wApp_8, com_r W t (by omega), com_r W t (by omega)]
  have e9 : ∀ j, wApp (wCom1 W t) t (W 4 t) 9 j = if j = 5 * t + W 4 t then 0 else W 9 j := fun j => by rw [wApp_9, com_r W t (by omega)]
  have ge : ∀ j, W 1 j ≤ wApp (wCom1 W t) t (W 4 t) 1 j := fun j => by rw [e1]; split <;> omega
  have at1 : wApp (wCom1 W t) t (W 4 t) 1 (5 * W 4 t + W 4 t) = W 1 (5 * W 4 t + W 4 t) + 1 := by rw [e1, if_pos rfl]
  have key : Inv (wApp (wCom1 W t) t (W 4 t)) := by
    have bc : Bd (wCom1 W t) := ((b.u (i := 5) (by omega) t (v := 2) (by decide))).u (i := 6) (by omega) t (v := W 1 (5 * W 4 t + W 4 t) + 1) (show _ < 1073741824 by omega)
    refine ⟨bd_app bc (by rw [c4, com_r W t (by omega)]; omega) (by rw [com_r W t (by omega)]; omega), ⟨fun u s hu hs q => ?_, fun u s hu hs q1 q2 => ?_, fun u hu q => ?_, fun u v hu hv hne q1 q2 q3 => ?_, fun s a' h1 h2 => ?_, fun u j hu hj => ?_, fun u j hu h1 h2 => ?_, fun u hu => ?_, fun u s hu hs q => ?_, fun j => ?_, fun j hj => ?_, fun s j h1 h2 h3 => ?_⟩, fun u s hu hs q => ?_, fun u hu => ?_, fun j hj => ?_, iw.fr a5 (fun j => er 13 _ (by omega) (by omega) (by omega) (by omega) (by omega) (by omega) (by omega))⟩
    · rw [a5] at hu
      rw [a0, e4]
      rw [e8] at q
      by_cases z : 5 * u + s = 5 * t + W 4 t
      · have z1 : u = t := by omega
        have z2 : s = W 4 t := by omega
        subst z1 z2
        rw [e5t, e6t, at1]; exact ⟨rfl, Nat.le_refl _, ha⟩
      · rw [if_neg z] at q
        have hne : u ≠ t := fun e => by rw [e, t8 s hs] at q; omega
        rw [e5 u hne, e6 u hne]
        obtain ⟨q1, q2, q3⟩ := j1 u s hu hs q
        exact ⟨q1, Nat.le_trans q2 (ge _), q3⟩
    · rw [a5] at hu
      rw [a0] at hs
      rw [e4] at q2
      rw [e8]
      by_cases z : 5 * u + s = 5 * t + W 4 t
      · rw [if_pos z]; omega
      · rw [if_neg z]
        by_cases c : u = t
        · subst c
          have hs' : s ≠ W 4 u := by omega
          rw [e6t, e1, if_neg (by omega)] at q2
          have := j5 s (W 4 u) hs ha
          omega
        · rw [e5 u c] at q1
          rw [e6 u c, e1] at q2
          refine j2 u s hu hs q1 ?_
          by_cases z1 : 5 * s + W 4 u = 5 * W 4 t + W 4 t
          · rw [if_pos z1] at q2
            have h4u := j8 u hu
            have z2 : s = W 4 t := by omega
            have z3 : W 4 u = W 4 t := by omega
            have := (j3 u hu q1).2
            rw [z3] at this
            rw [z1]; exact this
          · rw [if_neg z1] at q2; exact q2
    · rw [a5] at hu
      rw [e4]
      by_cases c : u = t
      · subst c; rw [e6t, at1]; omega
      · rw [e5 u c] at q
        rw [e6 u c]
        exact ⟨(j3 u hu q).1, Nat.le_trans (j3 u hu q).2 (ge _)⟩
    · rw [a5] at hu hv
      rw [e4, e4] at q3
      by_cases c : u = t
      · subst c
        rw [e6t, e6 v (fun z => hne z.symm)]
        rw [e5 v (fun z => hne z.symm)] at q2
        have := (j3 v hv q2).2
        rw [← q3] at this
        omega
      · rw [e5 u c] at q1
        rw [e6 u c]
        by_cases c' : v = t
        · subst c'
          rw [e6t]
          have := (j3 u hu q1).2
          rw [q3] at this
          omega
        · rw [e5 v c'] at q2
          rw [e6 v c']
          exact j4 u v hu hv hne q1 q2 q3
    · rw [a0] at h1 h2
      have q := j5 s a' h1 h2
      by_cases z : 5 * s + a' = 5 * W 4 t + W 4 t
      · have z1 : s = W 4 t := by omega
        have z2 : a' = W 4 t := by omega
        rw [z1, z2]; exact Nat.le_refl _
      · rw [e1, if_neg z]; exact Nat.le_trans q (ge _)
    · rw [a5] at hu
      rw [a0] at hj
      rw [e7, e4]; exact Nat.le_trans (j6 u j hu hj) (ge _)
    · rw [a5] at hu
      rw [a0] at h1
      rw [e7]; exact j7 u j hu h1 h2
    · rw [a5] at hu
      rw [e4, a0]; exact j8 u hu
    · rw [a5] at hu
      rw [e9] at q
      rw [e8, a0]
      by_cases z : 5 * u + s = 5 * t + W 4 t
      · rw [if_pos z] at q; exact absurd rfl q
      · rw [if_neg z] at q ⊢
        have hne : u ≠ t := fun e => by rw [e, t9 s hs] at q; exact absurd rfl q
        rw [e5 u hne]; exact j9 u s hu hs q
    · rw [e1, a4]; have := j12.1 j; split <;> omega
    · rw [e1, if_neg (by omega)]; exact j12.2.1 j hj
    · rw [a0] at h1 h2
      rw [e1, if_neg (by omega)]; exact j12.2.2 s j h1 h2 h3
    · rw [a5] at hu
      rw [a0] at hs
      unfold ready at q
      rw [a0, e9, e4] at q
      by_cases z : 5 * u + s = 5 * t + W 4 t
      · rw [if_pos z] at q; exact absurd rfl q.1.1
      · rw [if_neg z] at q
        have hne : u ≠ t := fun e => by
          have := q.1.1
          rw [e, t9 s (by omega)] at this; exact absurd rfl this
        rw [e6 u hne] at q
        obtain ⟨k1, k2, k3⟩ := j9 u s hu (by omega) q.1.1
        have k4 := j8 u hu
        refine r u s hu hs ⟨⟨q.1.1, ?_⟩, fun i hi => ?_⟩
        · have q2 := q.1.2
          rw [e1] at q2
          by_cases z1 : 5 * s + W 4 u = 5 * W 4 t + W 4 t
          · have z2 : s = W 4 t := by omega
            have z3 : W 4 u = W 4 t := by omega
            have := j2 u s hu hs k2 (by have := (j3 u hu k2).2; rw [z3] at this; rw [z2, z3]; exact this)
            omega
          · rw [if_neg z1] at q2; exact q2
        · have q3 : wApp (wCom1 W t) t (W 4 t) 7 (5 * u + i) ≤ wApp (wCom1 W t) t (W 4 t) 1 (5 * s + i) := q.2 i hi
          rw [e7, e1] at q3
          show W 7 (5 * u + i) ≤ W 1 (5 * s + i)
          by_cases z1 : 5 * s + i = 5 * W 4 t + W 4 t
          · have z2 : s = W 4 t := by omega
            have z3 : i = W 4 t := by omega
            have x1 := j6 u i hu hi
            have x2 := j5 (W 4 u) i k4 hi
            rw [z2, z3] at *
            omega
          · rw [if_neg z1] at q3; exact q3
    · rw [a5] at hu
      obtain ⟨p1, p2, p3⟩ := a u hu
      rw [a0, er 18 _ (by omega) (by omega) (by omega) (by omega) (by omega) (by omega) (by omega)]
      refine ⟨fun j hj q => ?_, fun j hj q => ?_, fun z j hj => ?_⟩
      · rw [er 12 _ (by omega) (by omega) (by omega) (by omega) (by omega) (by omega) (by omega)] at q
        rw [er 11 _ (by omega) (by omega) (by omega) (by omega) (by omega) (by omega) (by omega)]; exact p1 j hj q
      · rw [er 11 _ (by omega) (by omega) (by omega) (by omega) (by omega) (by omega) (by omega)] at q; exact p2 j hj q
      · rw [er 11 _ (by omega) (by omega) (by omega) (by omega) (by omega) (by omega) (by omega)]
        by_cases c : u = t
        · subst c; rw [e5t] at z; omega
        · rw [e5 u c] at z; exact p3 z j hj
    · rw [a23] at hj
      rw [er 20 _ (by omega) (by omega) (by omega) (by omega) (by omega) (by omega) (by omega), er 20 _ (by omega) (by omega) (by omega) (by omega) (by omega) (by omega) (by omega), er 20 _ (by omega) (by omega) (by omega) (by omega) (by omega) (by omega) (by omega), er 20 _ (by omega) (by omega) (by omega) (by omega) (by omega) (by omega) (by omega)]
      refine (l j hj).fr hb.2.1 a0 a5 (fun u _ => e4 u) (fun u _ q => ?_) (fun u j _ _ q => ?_)
      · by_cases c : u = t
        · subst c; exact e5t
        · rw [e5 u c]; exact q
      · rw [er 11 _ (by omega) (by omega) (by omega) (by omega) (by omega) (by omega) (by omega)]; exact q
  unfold wCommits
  rw [tlF_sd]
  refine key.sends _ (fun s hs _ => ?_)
  unfold okL
  rw [a0, a5, e5t]
  exact ⟨by omega, ha, hs, ht, fun z => by omega, fun z => by omega, fun _ => rfl⟩
/-- refusing one that goes on -/
theorem clF_c (W : Ab) (t : Nat) : ∀ n i j, clF W t n i j = if i = 11 ∧ 5 * t ≤ j ∧ j < 5 * t + n then 0 else W i j
  | 0, i, j => by rw [if_neg (by omega)]; rfl
  | n + 1, i, j => by
    show U (clF W t n) 11 (5 * t + n) 0 i j = _
    by_cases c : i = 11 ∧ j = 5 * t + n
    · rw [c.1, c.2, U_s, if_pos (by omega)]
    · rw [U_ne _ (by omega), clF_c W t n i j]
      by_cases z : i = 11 ∧ 5 * t ≤ j ∧ j < 5 * t + n
      · rw [if_pos z, if_pos (by omega)]
      · rw [if_neg z, if_neg (by omega)]
theorem cmF_o (W : Ab) (t : Nat) (hb : 2 ≤ W 0 0 ∧ W 0 0 ≤ 5) {j : Nat} (hj : j < 5 * t ∨ 5 * t + 5 ≤ j) : ∀ n, cmF W t n 11 j = W 11 j
  | 0 => rfl
  | n + 1 => by
    have hm : n % W 0 0 < W 0 0 := Nat.mod_lt _ (by omega)
    unfold cmF
    split
    · rw [U_k _ _ _ (by omega)]; exact cmF_o W t hb hj n
    · exact cmF_o W t hb hj n
theorem cmF_i (W : Ab) (t : Nat) (hb : 2 ≤ W 0 0 ∧ W 0 0 ≤ 5) {s : Nat} : ∀ n, (cmF W t n 11 (5 * t + s) ≠ 0 ↔ W 11 (5 * t + s) ≠ 0 ∨ ∃ o, o < n ∧ wr W t o ∧ o % W 0 0 ≠ W 4 t ∧ o % W 0 0 = s)
  | 0 => ⟨Or.inl, fun z => by
      rcases z with z | ⟨o, ho, -⟩
      · exact z
      · omega⟩
  | n + 1 => by
    have ih := cmF_i W t hb (s := s) n
    unfold cmF
    by_cases c : W 13 (20 * t + n) ≠ 0 ∧ n % W 0 0 ≠ W 4 t
    · rw [if_pos c]
      by_cases z : n % W 0 0 = s
      · rw [z, U_s]
        exact ⟨fun _ => Or.inr ⟨n, by omega, c.1, c.2, z⟩, fun _ => by omega⟩
      · rw [U_k _ _ _ (by omega), ih]
        refine ⟨fun q => ?_, fun q => ?_⟩
        · rcases q with q | ⟨o, h1, h2⟩
          · exact Or.inl q
          · exact Or.inr ⟨o, by omega, h2⟩
        · rcases q with q | ⟨o, h1, h2, h3, h4⟩
          · exact Or.inl q
          · refine Or.inr ⟨o, ?_, h2, h3, h4⟩
            by_cases e : o = n
            · subst e; exact absurd h4 z
            · omega
    · rw [if_neg c, ih]
      refine ⟨fun q => ?_, fun q => ?_⟩
      · rcases q with q | ⟨o, h1, h2⟩
        · exact Or.inl q
        · exact Or.inr ⟨o, by omega, h2⟩
      · rcases q with q | ⟨o, h1, h2, h3, h4⟩
        · exact Or.inl q
        · refine Or.inr ⟨o, ?_, h2, h3, h4⟩
          by_cases e : o = n
          · subst e; exact absurd ⟨h2, h3⟩ c
          · omega
theorem wRef_e (h : Inv W) {t : Nat} (ht : t < W 0 5) (h0 : W 5 t = 0) : wRef W t = U W 5 t 3 := by
  have hb := h.1.1
  have hz := (h.2.2.2.1 t ht).2.2 h0
  funext i j
  unfold wRef
  rw [clF_c]
  by_cases c : i = 11 ∧ 5 * t ≤ j ∧ j < 5 * t + 5
  · rw [if_pos c, c.1, U_r _ (by omega)]
    have := hz (j - 5 * t) (by omega)
    rw [show 5 * t + (j - 5 * t) = j by omega] at this
    exact this.symm
  · rw [if_neg c]
    by_cases z : i = 5 ∧ j = t
    · rw [z.1, z.2, U_s, U_s]
    · rw [U_ne _ (by omega), U_ne _ (by omega)]
      by_cases e : i = 11
      · subst e; exact cmF_o W t ⟨hb.1, hb.2.1⟩ (by omega) 20
      · exact cmF_r W t e _ _
theorem cmF_id {t : Nat} (hf : ¬ farO W t 20) : cmF W t 20 = W := by
  have : ∀ n, n ≤ 20 → cmF W t n = W := by
    intro n
    induction n with
    | zero => intro _; rfl
    | succ n ih =>
      intro hn
      unfold cmF
      rw [if_neg (fun z => hf ⟨n, by omega, z.1, z.2⟩)]
      exact ih (by omega)
  exact this 20 (Nat.le_refl _)
theorem inv_wait (h : Inv W) {t : Nat} (ht : t < W 0 5) (h0 : W 5 t = 0) : Inv (wWait W t) := by
  obtain ⟨b, k, r, a, l, iw⟩ := h
  have hb := b.1
  have ha := k.2.2.2.2.2.2.2.1 t ht
  have er : ∀ i j, i ≠ 3 → i ≠ 5 → i ≠ 11 → i ≠ 18 → U (U (lk (cmF W t 20) t (W 4 t) 20) 5 t 1) 18 t 1 i j = W i j := fun i j h3 h5 h11 h18 => by
    rw [U_r _ h18, U_r _ h5, lk_r _ _ _ h3, cmF_r _ _ h11]
  have e11 : ∀ j, U (U (lk (cmF W t 20) t (W 4 t) 20) 5 t 1) 18 t 1 11 j = cmF W t 20 11 j := fun j => by
    rw [U_r _ (by omega), U_r _ (by omega), lk_r _ _ _ (by omega)]
  have e5t : U (U (lk (cmF W t 20) t (W 4 t) 20) 5 t 1) 18 t 1 5 t = 1 := by rw [U_r _ (by omega), U_s]
  have e5 : ∀ u, u ≠ t → U (U (lk (cmF W t 20) t (W 4 t) 20) 5 t 1) 18 t 1 5 u = W 5 u := fun u hu => by
    rw [U_r _ (by omega), U_k _ _ _ hu, lk_r _ _ _ (by omega), cmF_r _ _ (by omega)]
  have e18 : ∀ u, u ≠ t → U (U (lk (cmF W t 20) t (W 4 t) 20) 5 t 1) 18 t 1 18 u = W 18 u := fun u hu => by
    rw [U_k _ _ _ hu, U_r _ (by omega), lk_r _ _ _ (by omega), cmF_r _ _ (by omega)]
  have a00 := er 0 0 (by omega) (by omega) (by omega) (by omega)
  have a05 := er 0 5 (by omega) (by omega) (by omega) (by omega)
  have s : Sm W (U (U (lk (cmF W t 20) t (W 4 t) 20) 5 t 1) 18 t 1) := ⟨⟨a00, er 0 4 (by omega) (by omega) (by omega) (by omega), a05⟩, fun i j hi => er i j (by omega) (by omega) (by omega) (by omega)⟩
  have hz := (a t ht).2.2 h0
  have key : Inv (U (U (lk (cmF W t 20) t (W 4 t) 20) 5 t 1) 18 t 1) := by
    refine ⟨((bd_lk (bd_cmF b t 20) (by omega) _ 20).u (i := 5) (by omega) t (v := 1) (by decide)).u (i := 18) (by omega) t (v := 1) (by decide), k.fr s (fun u hu => ?_) (fun u s _ _ q => ?_), r.fr hb.2.1 s (fun u s _ _ q => ?_), fun u hu => ?_, l.fr hb.2.1 a00 a05 (er 0 23 (by omega) (by omega) (by omega) (by omega)) (fun j => er 20 j (by omega) (by omega) (by omega) (by omega)) (fun u _ => er 4 u (by omega) (by omega) (by omega) (by omega)) (fun u hu q => ?_) (fun u j hu hj q => ?_), iw.fr a05 (fun j => er 13 j (by omega) (by omega) (by omega) (by omega))⟩
    · by_cases c : u = t
      · subst c; rw [e5t, h0]; omega
      · rw [e5 u c]
    · rw [er 9 _ (by omega) (by omega) (by omega) (by omega)] at q; exact q
    · rw [er 9 _ (by omega) (by omega) (by omega) (by omega)] at q; exact q
    · rw [a05] at hu
      rw [a00]
      by_cases c : u = t
      · subst c
        refine ⟨fun j hj q => ?_, fun j hj q => ?_, fun z => by rw [e5t] at z; omega⟩
        · rw [er 12 _ (by omega) (by omega) (by omega) (by omega)] at q
          exact absurd (hz j hj) ((a u hu).1 j hj q)
        · rw [U_s]
          rw [e11, cmF_i W u ⟨hb.1, hb.2.1⟩] at q
          rcases q with q | ⟨o, h1, h2, h3, h4⟩
          · exact absurd (hz j hj) q
          · have : o % W 0 0 < W 0 0 := Nat.mod_lt _ (by omega)
            omega
      · rw [e18 u c, e5 u c]
        have hj11 : ∀ j, j < 5 → U (U (lk (cmF W t 20) t (W 4 t) 20) 5 t 1) 18 t 1 11 (5 * u + j) = W 11 (5 * u + j) := fun j hj => by
          rw [e11]; exact cmF_o W t ⟨hb.1, hb.2.1⟩ (by omega) 20
        refine ⟨fun j hj q => ?_, fun j hj q => ?_, fun z j hj => ?_⟩
        · rw [er 12 _ (by omega) (by omega) (by omega) (by omega)] at q
          rw [hj11 j hj]; exact (a u hu).1 j hj q
        · rw [hj11 j hj] at q; exact (a u hu).2.1 j hj q
        · rw [hj11 j hj]; exact (a u hu).2.2 z j hj
    · by_cases c : u = t
      · subst c; omega
      · rw [e5 u c]; exact q
    · rw [e11]
      by_cases c : u = t
      · subst c; rw [cmF_i W u ⟨hb.1, hb.2.1⟩]; exact Or.inl q
      · rw [cmF_o W t ⟨hb.1, hb.2.1⟩ (by omega)]; exact q
  unfold wWait
  rw [skF_sd]
  refine key.sends _ (fun s hs q => ?_)
  unfold okL
  rw [a00, a05, er 4 t (by omega) (by omega) (by omega) (by omega)]
  exact ⟨by omega, ha, hs, ht, fun _ => ⟨rfl, q⟩, fun z => by omega, fun z => by omega⟩
theorem inv_again (h : Inv W) {t : Nat} (ht : t < W 0 5) : Inv (wAgain W t) := by
  have ha := h.2.1.2.2.2.2.2.2.2.1 t ht
  unfold wAgain
  refine h.sends _ (fun s hs q => ?_)
  unfold okL kdA
  unfold pA at q
  refine ⟨?_, ha, hs, ht, fun z => ?_, fun z => ?_, fun z => ?_⟩
  · split
    · omega
    · split <;> omega
  · by_cases c : W 5 t = 1
    · refine ⟨rfl, ?_⟩
      rcases q with q | q | q
      · exact q.2.1
      · omega
      · omega
    · rw [if_neg c] at z
      split at z <;> omega
  · split at z
    · omega
    · split at z <;> omega
  · split at z
    · omega
    · split at z
      · assumption
      · omega
theorem inv_frees (h : Inv W) {t : Nat} (ht : t < W 0 5) : Inv (wFrees W t) := by
  have hb := h.1.1
  have ha := h.2.1.2.2.2.2.2.2.2.1 t ht
  have h1 : Inv (unl W t (W 4 t) 20) := h.dm (bd_unl h.1 _ _ _) (fun i j _ hn => unl_r _ _ _ (fun z => hn (Or.inr (Or.inl z))) _ _)
  unfold wFrees
  rw [skF_sd]
  refine h1.sends _ (fun s hs q => ?_)
  unfold okL
  rw [unl_r _ _ _ (by omega), unl_r _ _ _ (by omega)]
  exact ⟨by omega, ha, hs, ht, fun z => by omega, fun z => by omega, fun z => by omega⟩
theorem inv_take (h : Inv W) {i : Nat} (hi : i < W 0 23) : Inv (wTake W i) := by
  obtain ⟨b, k, r, a, l, iw⟩ := h
  have w0 : ∀ j, j ≠ 23 → wTake W i 0 j = W 0 j := fun j hj => by unfold wTake; rw [U_k _ _ _ hj, tkF_r _ _ (by omega)]
  have w23 : wTake W i 0 23 = W 0 23 - 1 := U_s _ _ _ _
  have wr' : ∀ q j, q ≠ 0 → q ≠ 20 → wTake W i q j = W q j := fun q j h1 h2 => by unfold wTake; rw [U_r _ h1, tkF_r _ _ h2]
  have s : Sm W (wTake W i) := ⟨⟨w0 _ (by omega), w0 _ (by omega), w0 _ (by omega)⟩, fun q j hq => wr' q j (by omega) (by omega)⟩
  refine ⟨bd_take b i, k.fr s (fun u _ => by rw [wr' _ _ (by omega) (by omega)]) (fun u s _ _ q => by rw [wr' _ _ (by omega) (by omega)] at q; exact q), r.fr b.1.2.1 s (fun u s _ _ q => by rw [wr' _ _ (by omega) (by omega)] at q; exact q), a.fr s.1.1 s.1.2.2 (fun u _ q => by rw [wr' _ _ (by omega) (by omega)] at q; exact q) (fun j => wr' _ _ (by omega) (by omega)) (fun j => wr' _ _ (by omega) (by omega)) (fun j => wr' _ _ (by omega) (by omega)), fun j hj => ?_, iw.fr s.1.2.2 (fun j => wr' _ _ (by omega) (by omega))⟩
  rw [w23] at hj
  have go : ∀ kd' fr' to' t', okL W kd' fr' to' t' → okL (wTake W i) kd' fr' to' t' := fun _ _ _ _ q => q.fr b.1.2.1 s.1.1 s.1.2.2 (fun u _ => wr' _ _ (by omega) (by omega)) (fun u _ q => by rw [wr' _ _ (by omega) (by omega)]; exact q) (fun u j _ _ q => by rw [wr' _ _ (by omega) (by omega)]; exact q)
  have e : ∀ q, wTake W i 20 q = tkF W i (4 * (W 0 23 - 1 - i)) 20 q := fun q => U_r _ (by omega) _ _ _
  rw [e, e, e, e]
  by_cases z : j < i
  · rw [(tkF_lo W i _).1 (by omega), (tkF_lo W i _).1 (by omega), (tkF_lo W i _).1 (by omega), (tkF_lo W i _).1 (by omega)]
    exact go _ _ _ _ (l j (by omega))
  · rw [(tkF_lo W i _).2 (by omega) (by omega), (tkF_lo W i _).2 (by omega) (by omega), (tkF_lo W i _).2 (by omega) (by omega), (tkF_lo W i _).2 (by omega) (by omega)]
    have := go _ _ _ _ (l (j + 1) (by omega))
    rw [show 4 * (j + 1) = 4 * j + 4 by omega, show 4 * j + 4 + 1 = 4 * j + 1 + 4 by omega, show 4 * j + 4 + 2 = 4 * j + 2 + 4 by omega, show 4 * j + 4 + 3 = 4 * j + 3 + 4 by omega] at this
    exact this
theorem cpF_c (W : Ab) (i : Nat) : ∀ m a j, cpF W i m a j = if a = 20 ∧ 4 * W 0 23 ≤ j ∧ j < 4 * W 0 23 + m then W 20 (4 * i + (j - 4 * W 0 23)) else W a j
  | 0, a, j => by rw [if_neg (by omega)]; rfl
  | m + 1, a, j => by
    show U (cpF W i m) 20 (4 * W 0 23 + m) (W 20 (4 * i + m)) a j = _
    by_cases c : a = 20 ∧ j = 4 * W 0 23 + m
    · rw [c.1, c.2, U_s, if_pos (by omega), show 4 * W 0 23 + m - 4 * W 0 23 = m by omega]
    · rw [U_ne _ (by omega), cpF_c W i m a j]
      by_cases z : a = 20 ∧ 4 * W 0 23 ≤ j ∧ j < 4 * W 0 23 + m
      · rw [if_pos z, if_pos (by omega)]
      · rw [if_neg z, if_neg (by omega)]
theorem cp_r (W : Ab) (i : Nat) {q j : Nat} (h0 : q = 0 → j ≠ 23) (h20 : q = 20 → j < 4 * W 0 23 ∨ 4 * W 0 23 + 4 ≤ j) : wCopy W i q j = W q j := by
  unfold wCopy
  rw [U_ne _ (by omega), cpF_c, if_neg (by omega)]
theorem cp_n (W : Ab) (i : Nat) {q : Nat} (hq : q < 4) : wCopy W i 20 (4 * W 0 23 + q) = W 20 (4 * i + q) := by
  unfold wCopy
  rw [U_r _ (by omega), cpF_c, if_pos (by omega), show 4 * W 0 23 + q - 4 * W 0 23 = q by omega]
theorem inv_copy (h : Inv W) {i : Nat} (hi : i < W 0 23) (hl : W 0 23 < 300) : Inv (wCopy W i) := by
  obtain ⟨b, k, r, a, l, iw⟩ := h
  have hb := b.1
  have w0 : ∀ j, j ≠ 23 → wCopy W i 0 j = W 0 j := fun j hj => cp_r W i (by omega) (by omega)
  have w23 : wCopy W i 0 23 = W 0 23 + 1 := U_s _ _ _ _
  have wr' : ∀ q j, q ≠ 0 → q ≠ 20 → wCopy W i q j = W q j := fun q j h1 h2 => cp_r W i (by omega) (by omega)
  have s : Sm W (wCopy W i) := ⟨⟨w0 _ (by omega), w0 _ (by omega), w0 _ (by omega)⟩, fun q j hq => wr' q j (by omega) (by omega)⟩
  refine ⟨⟨by rw [w0 0 (by omega), w0 5 (by omega), w23, w0 4 (by omega)]; omega, fun q j hq => ?_⟩, k.fr s (fun u _ => by rw [wr' _ _ (by omega) (by omega)]) (fun u s _ _ q => by rw [wr' _ _ (by omega) (by omega)] at q; exact q), r.fr b.1.2.1 s (fun u s _ _ q => by rw [wr' _ _ (by omega) (by omega)] at q; exact q), a.fr s.1.1 s.1.2.2 (fun u _ q => by rw [wr' _ _ (by omega) (by omega)] at q; exact q) (fun j => wr' _ _ (by omega) (by omega)) (fun j => wr' _ _ (by omega) (by omega)) (fun j => wr' _ _ (by omega) (by omega)), fun j hj => ?_, iw.fr s.1.2.2 (fun j => wr' _ _ (by omega) (by omega))⟩
  · by_cases z : q = 20 ∧ 4 * W 0 23 ≤ j ∧ j < 4 * W 0 23 + 4
    · have := cp_n W i (q := j - 4 * W 0 23) (by omega)
      rw [show 4 * W 0 23 + (j - 4 * W 0 23) = j by omega] at this
      rw [z.1, this]; exact b.2 20 _ (by omega)
    · rw [cp_r W i (by omega) (by omega)]; exact b.2 q j hq
  · rw [w23] at hj
    have go : ∀ kd' fr' to' t', okL W kd' fr' to' t' → okL (wCopy W i) kd' fr' to' t' := fun _ _ _ _ q => q.fr b.1.2.1 s.1.1 s.1.2.2 (fun u _ => wr' _ _ (by omega) (by omega)) (fun u _ q => by rw [wr' _ _ (by omega) (by omega)]; exact q) (fun u j _ _ q => by rw [wr' _ _ (by omega) (by omega)]; exact q)
    by_cases z : j = W 0 23
    · subst z
      have e0 := cp_n W i (q := 0) (by omega)
      rw [Nat.add_zero, Nat.add_zero] at e0
      rw [e0, cp_n W i (by omega), cp_n W i (by omega), cp_n W i (by omega)]
      exact go _ _ _ _ (l i hi)
    · rw [cp_r W i (by omega) (by omega), cp_r W i (by omega) (by omega), cp_r W i (by omega) (by omega), cp_r W i (by omega) (by omega)]
      exact go _ _ _ _ (l j (by omega))
theorem inv_said (h : Inv W) {t s : Nat} (ht : t < W 0 5) (hs : s < 5) (h11 : W 11 (5 * t + s) ≠ 0) : Inv (U W 12 (5 * t + s) 1) := by
  obtain ⟨b, k, r, a, l, iw⟩ := h
  have er : ∀ i j, i ≠ 12 → U W 12 (5 * t + s) 1 i j = W i j := fun i j hi => U_r _ hi _ _ _
  have sm : Sm W (U W 12 (5 * t + s) 1) := ⟨⟨er _ _ (by omega), er _ _ (by omega), er _ _ (by omega)⟩, fun i j hi => er _ _ (by omega)⟩
  refine ⟨b.u (by omega) _ (by decide), k.fr sm (fun u _ => by rw [er _ _ (by omega)]) (fun u s _ _ q => by rw [er _ _ (by omega)] at q; exact q), r.fr b.1.2.1 sm (fun u s _ _ q => by rw [er _ _ (by omega)] at q; exact q), fun u hu => ?_, l.fr b.1.2.1 sm.1.1 sm.1.2.2 (er _ _ (by omega)) (fun j => er _ _ (by omega)) (fun u _ => er _ _ (by omega)) (fun u _ q => by rw [er _ _ (by omega)]; exact q) (fun u j _ _ q => by rw [er _ _ (by omega)]; exact q), iw.fr sm.1.2.2 (fun j => er _ _ (by omega))⟩
  rw [er _ _ (by omega)] at hu
  obtain ⟨p1, p2, p3⟩ := a u hu
  rw [er 0 0 (by omega), er 18 _ (by omega), er 5 _ (by omega)]
  refine ⟨fun j hj q => ?_, fun j hj q => ?_, fun z j hj => ?_⟩
  · rw [er 11 _ (by omega)]
    by_cases z : 5 * u + j = 5 * t + s
    · rw [z]; exact h11
    · rw [U_k _ _ _ z] at q; exact p1 j hj q
  · rw [er 11 _ (by omega)] at q; exact p2 j hj q
  · rw [er 11 _ (by omega)]; exact p3 z j hj
/-- a tell kept, and all that follows -/
theorem inv_tell (h : Inv W) {t s : Nat} (ht : t < W 0 5) (hs : s < W 0 0) (h5 : W 5 t = 2) (hv : W 0 4 + 200 < 1073741824) : Inv (stl s (W 0 5) (if W 8 (5 * t + s) = 0 then U W 9 (5 * t + s) 1 else W) 0).1 := by
  obtain ⟨b, k, r, a, l, iw⟩ := h
  have hb := b.1
  have fin : ∀ V, Bd V → K0 V → (∀ i j, i ≠ 9 → V i j = W i j) → (∀ u s', u < W 0 5 → s' < W 0 0 → s' ≠ s → ¬ ready V u s') → Inv (stl s (W 0 5) V 0).1 := by
    intro V bV kV eV rV
    have hkp : kp V s ≤ W 0 5 := by unfold kp; rw [eV _ _ (by omega)]; exact ct_le _ _
    obtain ⟨r1, r2, r3, r4, r5⟩ := stl_inv (s := s) (W 0 5) V 0 bV kV (by rw [eV _ _ (by omega)]; exact hs) (fun u s' hu hs' hne => rV u s' (by rw [eV _ _ (by omega)] at hu; exact hu) (by rw [eV _ _ (by omega)] at hs'; exact hs') hne) hkp (by rw [eV _ _ (by omega)]; omega)
    have f0 : ∀ j, j ≠ 4 → (stl s (W 0 5) V 0).1 0 j = W 0 j := fun j hj => by rw [r4 j hj, eV _ _ (by omega)]
    have fr : ∀ i j, i ≠ 0 → i ≠ 1 → i ≠ 3 → i ≠ 8 → i ≠ 9 → (stl s (W 0 5) V 0).1 i j = W i j := fun i j h0 h1 h3 h8 h9 => by rw [r5 i j h0 h1 h3 h8 h9, eV _ _ h9]
    refine ⟨r1, r2, r3, a.fr (f0 _ (by omega)) (f0 _ (by omega)) (fun u _ q => ?_) (fun j => ?_) (fun j => ?_) (fun j => ?_), l.fr hb.2.1 (f0 _ (by omega)) (f0 _ (by omega)) (f0 _ (by omega)) (fun j => ?_) (fun u _ => ?_) (fun u _ q => ?_) (fun u j _ _ q => ?_), iw.fr (f0 _ (by omega)) (fun j => fr _ _ (by omega) (by omega) (by omega) (by omega) (by omega))⟩
    · rw [fr _ _ (by omega) (by omega) (by omega) (by omega) (by omega)] at q; exact q
    · exact fr _ _ (by omega) (by omega) (by omega) (by omega) (by omega)
    · exact fr _ _ (by omega) (by omega) (by omega) (by omega) (by omega)
    · exact fr _ _ (by omega) (by omega) (by omega) (by omega) (by omega)
    · exact fr _ _ (by omega) (by omega) (by omega) (by omega) (by omega)
    · exact fr _ _ (by omega) (by omega) (by omega) (by omega) (by omega)
    · rw [fr _ _ (by omega) (by omega) (by omega) (by omega) (by omega)]; exact q
    · rw [fr _ _ (by omega) (by omega) (by omega) (by omega) (by omega)]; exact q
  by_cases c : W 8 (5 * t + s) = 0
  · rw [if_pos c]
    have er : ∀ i j, i ≠ 9 → U W 9 (5 * t + s) 1 i j = W i j := fun i j hi => U_r _ hi _ _ _
    refine fin _ (b.u (by omega) _ (by decide)) ?_ er (fun u s' hu hs' hne q => ?_)
    · obtain ⟨j1, j2, j3, j4, j5, j6, j7, j8, j9, j12⟩ := k
      unfold K0 J1 J2 J3 J4 J5 J6 I7 J8 J9 J12
      simp only [er 0 _ (by omega), er 1 _ (by omega), er 4 _ (by omega), er 5 _ (by omega), er 6 _ (by omega), er 7 _ (by omega), er 8 _ (by omega)]
      refine ⟨j1, j2, j3, j4, j5, j6, j7, j8, fun u s' hu hs' q => ?_, j12⟩
      by_cases z : 5 * u + s' = 5 * t + s
      · have z1 : u = t := by omega
        have z2 : s' = s := by omega
        subst z1 z2
        exact ⟨c, h5, hs⟩
      · rw [U_k _ _ _ z] at q; exact j9 u s' hu hs' q
    · refine r u s' hu hs' ?_
      unfold ready at q ⊢
      rw [U_k _ _ _ (by omega), er 0 _ (by omega), er 6 _ (by omega), er 4 _ (by omega), er 1 _ (by omega)] at q
      refine ⟨q.1, fun i hi => ?_⟩
      have z : U W 9 (5 * t + s) 1 7 (5 * u + i) ≤ U W 9 (5 * t + s) 1 1 (5 * s' + i) := q.2 i hi
      rw [er 7 _ (by omega), er 1 _ (by omega)] at z
      exact z
  · rw [if_neg c]
    exact fin W b k (fun _ _ _ => rfl) (fun u s' hu hs' _ => r u s' hu hs')
/-- a crash, a restart -/
theorem crF_f (W : Ab) (s : Nat) (hs : s < 5) : ∀ n, (∀ u, crF W s n 5 u = W 5 u ∨ (W 5 u ≤ 1 ∧ crF W s n 5 u = 4)) ∧ (∀ j, crF W s n 9 j = W 9 j ∨ crF W s n 9 j = 0) ∧ ∀ i j, i ≠ 5 → i ≠ 9 → i ≠ 19 → crF W s n i j = W i j
  | 0 => ⟨fun _ => Or.inl rfl, fun _ => Or.inl rfl, fun _ _ _ _ _ => rfl⟩
  | n + 1 => by
    obtain ⟨p1, p2, p3⟩ := crF_f W s hs n
    unfold crF
    by_cases c : W 4 n = s ∧ W 5 n ≤ 1
    · rw [if_pos c]
      refine ⟨fun u => ?_, fun j => ?_, fun i j h5 h9 h19 => ?_⟩
      · by_cases z : u = n
        · subst z; rw [U_s]; exact Or.inr ⟨c.2, rfl⟩
        · rw [U_k _ _ _ z, U_r _ (by omega), U_r _ (by omega)]; exact p1 u
      · rw [U_r _ (by omega), U_r _ (by omega)]
        by_cases z : j = 5 * n + s
        · subst z; rw [U_s]; exact Or.inr rfl
        · rw [U_k _ _ _ z]; exact p2 j
      · rw [U_r _ h5, U_r _ h19, U_r _ h9]; exact p3 i j h5 h9 h19
    · rw [if_neg c]
      refine ⟨fun u => ?_, fun j => ?_, fun i j h5 h9 h19 => ?_⟩
      · rw [U_r _ (by omega)]; exact p1 u
      · by_cases z : j = 5 * n + s
        · subst z; rw [U_s]; exact Or.inr rfl
        · rw [U_k _ _ _ z]; exact p2 j
      · rw [U_r _ h9]; exact p3 i j h5 h9 h19
theorem bd_crF {W : Ab} (h : Bd W) (s : Nat) : ∀ n, Bd (crF W s n)
  | 0 => h
  | n + 1 => by
    unfold crF
    split
    · refine ((bd_crF h s n).u (by omega) _ (by decide)).u (i := 19) (by omega) _ ?_ |>.u (by omega) _ (by decide)
      show _ < 2
      split <;> omega
    · exact (bd_crF h s n).u (by omega) _ (by decide)
theorem inv_crF (h : Inv W) {s : Nat} (hs : s < 5) (n : Nat) : Inv (crF W s n) := by
  obtain ⟨b, k, r, a, l, iw⟩ := h
  obtain ⟨p1, p2, p3⟩ := crF_f W s hs n
  have sm : Sm W (crF W s n) := ⟨⟨p3 _ _ (by omega) (by omega) (by omega), p3 _ _ (by omega) (by omega) (by omega), p3 _ _ (by omega) (by omega) (by omega)⟩, fun i j hi => p3 _ _ (by omega) (by omega) (by omega)⟩
  have h9 : ∀ u s', u < W 0 5 → s' < 5 → crF W s n 9 (5 * u + s') ≠ 0 → W 9 (5 * u + s') ≠ 0 := fun u s' _ _ q => by
    rcases p2 (5 * u + s') with z | z
    · rw [z] at q; exact q
    · exact absurd z q
  refine ⟨bd_crF b s n, k.fr sm (fun u _ => ?_) h9, r.fr b.1.2.1 sm h9, a.fr sm.1.1 sm.1.2.2 (fun u _ q => ?_) (fun j => p3 _ _ (by omega) (by omega) (by omega)) (fun j => p3 _ _ (by omega) (by omega) (by omega)) (fun j => p3 _ _ (by omega) (by omega) (by omega)), l.fr b.1.2.1 sm.1.1 sm.1.2.2 (p3 _ _ (by omega) (by omega) (by omega)) (fun j => p3 _ _ (by omega) (by omega) (by omega)) (fun u _ => p3 _ _ (by omega) (by omega) (by omega)) (fun u _ q => ?_) (fun u j _ _ q => by rw [p3 _ _ (by omega) (by omega) (by omega)]; exact q), iw.fr sm.1.2.2 (fun j => p3 _ _ (by omega) (by omega) (by omega))⟩
  · rcases p1 u with z | z
    · rw [z]
    · omega
  · rcases p1 u with z | z
    · rw [z] at q; exact q
    · omega
  · rcases p1 u with z | z
    · rw [z]; exact q
    · omega
theorem inv_rsF (h : Inv W) (s : Nat) : ∀ n, n ≤ W 0 5 → Inv (rsF W s n)
  | 0, _ => h
  | n + 1, hn => by
    have ih := inv_rsF h s n (by omega)
    have hb := h.1.1
    unfold rsF
    split
    · refine inv_frees (ih.dm (ih.1.u (by omega) _ (by decide)) (fun i j _ hd => U_r _ (fun z => hd ?_) _ _ _)) ?_
      · unfold dm; omega
      · rw [U_r _ (by omega), rsF_0 _ _ (by omega)]; omega
    · exact ih
end
