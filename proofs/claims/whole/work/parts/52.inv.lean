/-! What holds between the calls, in the reference's numbers -/
def J1 (W : Ab) : Prop := ∀ u s, u < W 0 5 → s < 5 → 0 < W 8 (5 * u + s) → W 5 u = 2 ∧ W 6 u ≤ W 1 (5 * s + W 4 u) ∧ s < W 0 0
def J2 (W : Ab) : Prop := ∀ u s, u < W 0 5 → s < W 0 0 → W 5 u = 2 → W 6 u ≤ W 1 (5 * s + W 4 u) → 0 < W 8 (5 * u + s)
def J3 (W : Ab) : Prop := ∀ u, u < W 0 5 → W 5 u = 2 → 1 ≤ W 6 u ∧ W 6 u ≤ W 1 (5 * W 4 u + W 4 u)
def J4 (W : Ab) : Prop := ∀ u v, u < W 0 5 → v < W 0 5 → u ≠ v → W 5 u = 2 → W 5 v = 2 → W 4 u = W 4 v → W 6 u ≠ W 6 v
def J5 (W : Ab) : Prop := ∀ s a, s < W 0 0 → a < W 0 0 → W 1 (5 * s + a) ≤ W 1 (5 * a + a)
def J6 (W : Ab) : Prop := ∀ t j, t < W 0 5 → j < W 0 0 → W 7 (5 * t + j) ≤ W 1 (5 * W 4 t + j)
def J8 (W : Ab) : Prop := ∀ t, t < W 0 5 → W 4 t < W 0 0
def J9 (W : Ab) : Prop := ∀ t s, t < W 0 5 → s < 5 → W 9 (5 * t + s) ≠ 0 → W 8 (5 * t + s) = 0 ∧ W 5 t = 2 ∧ s < W 0 0
def J12 (W : Ab) : Prop := (∀ j, W 1 j ≤ W 0 4) ∧ (∀ j, 25 ≤ j → W 1 j = 0) ∧ ∀ s j, s < W 0 0 → W 0 0 ≤ j → j < 5 → W 1 (5 * s + j) = 0
def JR (W : Ab) : Prop := ∀ t s, t < W 0 5 → s < W 0 0 → ¬ ready W t s
def K0 (W : Ab) : Prop := J1 W ∧ J2 W ∧ J3 W ∧ J4 W ∧ J5 W ∧ J6 W ∧ I7 W ∧ J8 W ∧ J9 W ∧ J12 W
def Ak (W : Ab) : Prop := ∀ t, t < W 0 5 → (∀ j, j < 5 → W 12 (5 * t + j) ≠ 0 → W 11 (5 * t + j) ≠ 0) ∧ (∀ j, j < 5 → W 11 (5 * t + j) ≠ 0 → W 18 t ≠ 0 ∧ j < W 0 0) ∧ (W 5 t = 0 → ∀ j, j < 5 → W 11 (5 * t + j) = 0)
def okL (W : Ab) (kd fr to t : Nat) : Prop := (1 ≤ kd ∧ kd ≤ 5) ∧ fr < W 0 0 ∧ to < W 0 0 ∧ t < W 0 5 ∧ (kd = 1 → fr = W 4 t ∧ W 11 (5 * t + to) ≠ 0) ∧ (kd = 2 → W 11 (5 * t + fr) ≠ 0) ∧ (kd = 5 → W 5 t = 2)
def Lt (W : Ab) : Prop := ∀ j, j < W 0 23 → okL W (W 20 (4 * j)) (W 20 (4 * j + 1)) (W 20 (4 * j + 2)) (W 20 (4 * j + 3))
def Iw (W : Ab) : Prop := ∀ t, t < W 0 5 → ct (wr W t) 20 ≤ 10
def Inv (W : Ab) : Prop := Bd W ∧ K0 W ∧ JR W ∧ Ak W ∧ Lt W ∧ Iw W
section
variable {W W' : Ab}
theorem K0.i1 (h : K0 W) : I1 W := fun u s hu hs h8 => (h.1 u s hu hs h8).1
theorem K0.i7 (h : K0 W) : I7 W := h.2.2.2.2.2.2.1
theorem K0.i9 (h : K0 W) : I9 W := fun t s ht hs h9 => (h.2.2.2.2.2.2.2.2.1 t s ht hs h9).1
/-- sameness that matters -/
def Sm (W W' : Ab) : Prop := (W' 0 0 = W 0 0 ∧ W' 0 4 = W 0 4 ∧ W' 0 5 = W 0 5) ∧ ∀ i j, i = 1 ∨ i = 4 ∨ i = 6 ∨ i = 7 ∨ i = 8 → W' i j = W i j
theorem K0.fr (h : K0 W) (s : Sm W W') (h5 : ∀ u, u < W 0 5 → (W' 5 u = 2 ↔ W 5 u = 2)) (h9 : ∀ u s, u < W 0 5 → s < 5 → W' 9 (5 * u + s) ≠ 0 → W 9 (5 * u + s) ≠ 0) : K0 W' := by
  obtain ⟨⟨a0, a4, a5⟩, sm⟩ := s
  have e1 : ∀ j, W' 1 j = W 1 j := fun j => sm 1 j (by omega)
  have e4 : ∀ j, W' 4 j = W 4 j := fun j => sm 4 j (by omega)
  have e6 : ∀ j, W' 6 j = W 6 j := fun j => sm 6 j (by omega)
  have e7 : ∀ j, W' 7 j = W 7 j := fun j => sm 7 j (by omega)
  have e8 : ∀ j, W' 8 j = W 8 j := fun j => sm 8 j (by omega)
  obtain ⟨j1, j2, j3, j4, j5, j6, j7, j8, j9, j12⟩ := h
  unfold K0 J1 J2 J3 J4 J5 J6 I7 J8 J9 J12
  simp only [a0, a4, a5, e1, e4, e6, e7, e8]
  refine ⟨fun u s hu hs h => ?_, fun u s hu hs h q => ?_, fun u hu h => ?_, fun u v hu hv hne q1 q2 => ?_, j5, j6, j7, j8, fun t s ht hs q => ?_, j12⟩
  · rw [h5 u hu]; exact j1 u s hu hs h
  · rw [h5 u hu] at h; exact j2 u s hu hs h q
  · rw [h5 u hu] at h; exact j3 u hu h
  · rw [h5 u hu] at q1; rw [h5 v hv] at q2; exact j4 u v hu hv hne q1 q2
  · rw [h5 t ht]; exact j9 t s ht hs (h9 t s ht hs q)
theorem JR.fr (h : JR W) (b : W 0 0 ≤ 5) (s : Sm W W') (h9 : ∀ u s, u < W 0 5 → s < 5 → W' 9 (5 * u + s) ≠ 0 → W 9 (5 * u + s) ≠ 0) : JR W' := by
  obtain ⟨⟨a0, a4, a5⟩, sm⟩ := s
  intro t s ht hs q
  rw [a5] at ht
  rw [a0] at hs
  refine h t s ht hs ?_
  unfold ready at q ⊢
  rw [a0, sm 6 _ (by omega), sm 1 _ (by omega), sm 4 _ (by omega)] at q
  refine ⟨⟨h9 t s ht (by omega) q.1.1, q.1.2⟩, fun i hi => ?_⟩
  have z : W' 7 (5 * t + i) ≤ W' 1 (5 * s + i) := q.2 i hi
  rw [sm 7 _ (by omega), sm 1 _ (by omega)] at z
  exact z
theorem Ak.fr (h : Ak W) (a0 : W' 0 0 = W 0 0) (a5 : W' 0 5 = W 0 5) (h5 : ∀ u, u < W 0 5 → W' 5 u = 0 → W 5 u = 0) (h11 : ∀ j, W' 11 j = W 11 j) (h12 : ∀ j, W' 12 j = W 12 j) (h18 : ∀ j, W' 18 j = W 18 j) : Ak W' := by
  unfold Ak
  simp only [a0, a5, h11, h12, h18]
  exact fun t ht => ⟨(h t ht).1, (h t ht).2.1, fun z => (h t ht).2.2 (h5 t ht z)⟩
theorem okL.fr {kd fr to t : Nat} (h : okL W kd fr to t) (b : W 0 0 ≤ 5) (a0 : W' 0 0 = W 0 0) (a5 : W' 0 5 = W 0 5) (h4 : ∀ u, u < W 0 5 → W' 4 u = W 4 u) (h5 : ∀ u, u < W 0 5 → W 5 u = 2 → W' 5 u = 2) (h11 : ∀ u j, u < W 0 5 → j < 5 → W 11 (5 * u + j) ≠ 0 → W' 11 (5 * u + j) ≠ 0) : okL W' kd fr to t := by
  obtain ⟨p1, p2, p3, p4, p5, p6, p7⟩ := h
  unfold okL
  rw [a0, a5]
  exact ⟨p1, p2, p3, p4, fun z => ⟨by rw [h4 t p4]; exact (p5 z).1, h11 _ _ p4 (by omega) (p5 z).2⟩, fun z => h11 _ _ p4 (by omega) (p6 z), fun z => h5 _ p4 (p7 z)⟩
theorem Lt.fr (h : Lt W) (b : W 0 0 ≤ 5) (a0 : W' 0 0 = W 0 0) (a5 : W' 0 5 = W 0 5) (a23 : W' 0 23 = W 0 23) (h20 : ∀ j, W' 20 j = W 20 j) (h4 : ∀ u, u < W 0 5 → W' 4 u = W 4 u) (h5 : ∀ u, u < W 0 5 → W 5 u = 2 → W' 5 u = 2) (h11 : ∀ u j, u < W 0 5 → j < 5 → W 11 (5 * u + j) ≠ 0 → W' 11 (5 * u + j) ≠ 0) : Lt W' := by
  intro j hj
  rw [a23] at hj
  rw [h20, h20, h20, h20]
  exact (h j hj).fr b a0 a5 h4 h5 h11
theorem Iw.fr (h : Iw W) (h5 : W' 0 5 = W 0 5) (h13 : ∀ j, W' 13 j = W 13 j) : Iw W' := by
  intro t ht
  rw [h5] at ht
  rw [ct_congr (q := wr W t) 20 (fun o _ => by unfold wr; rw [h13])]
  exact h t ht
/-- changes that matter to nobody here -/
def dm (i j : Nat) : Prop := i = 2 ∨ i = 3 ∨ i = 10 ∨ i = 14 ∨ i = 15 ∨ i = 16 ∨ i = 17 ∨ i = 19 ∨ i = 21 ∨ i = 0 ∧ (j = 24 ∨ j = 26 ∨ j = 27)
theorem Inv.dm (h : Inv W) (hb : Bd W') (hW : ∀ i j, i ≤ 21 → ¬ dm i j → W' i j = W i j) : Inv W' := by
  obtain ⟨b, k, r, a, l, iw⟩ := h
  have g : ∀ i j, i ≤ 21 → ¬ (i = 2 ∨ i = 3 ∨ i = 10 ∨ i = 14 ∨ i = 15 ∨ i = 16 ∨ i = 17 ∨ i = 19 ∨ i = 21 ∨ i = 0 ∧ (j = 24 ∨ j = 26 ∨ j = 27)) → W' i j = W i j := hW
  have s : Sm W W' := ⟨⟨g _ _ (by omega) (by omega), g _ _ (by omega) (by omega), g _ _ (by omega) (by omega)⟩, fun i j hi => g _ _ (by omega) (by omega)⟩
  refine ⟨hb, k.fr s (fun u _ => by rw [g _ _ (by omega) (by omega)]) (fun u s _ _ q => by rw [g _ _ (by omega) (by omega)] at q; exact q), r.fr b.1.2.1 s (fun u s _ _ q => by rw [g _ _ (by omega) (by omega)] at q; exact q), a.fr s.1.1 s.1.2.2 (fun u _ q => by rw [g _ _ (by omega) (by omega)] at q; exact q) (fun j => g _ _ (by omega) (by omega)) (fun j => g _ _ (by omega) (by omega)) (fun j => g _ _ (by omega) (by omega)), l.fr b.1.2.1 s.1.1 s.1.2.2 (g _ _ (by omega) (by omega)) (fun j => g _ _ (by omega) (by omega)) (fun u _ => g _ _ (by omega) (by omega)) (fun u _ q => by rw [g _ _ (by omega) (by omega)]; exact q) (fun u j _ _ q => by rw [g _ _ (by omega) (by omega)]; exact q), iw.fr s.1.2.2 (fun j => g _ _ (by omega) (by omega))⟩
/-- another state, never from or to a committed one -/
theorem Inv.state (h : Inv W) {t v : Nat} (ht : t < W 0 5) (h0 : W 5 t ≠ 2) (hv : v ≠ 2 ∧ v ≠ 0 ∧ v < 5) : Inv (U W 5 t v) := by
  obtain ⟨b, k, r, a, l, iw⟩ := h
  have s : Sm W (U W 5 t v) := ⟨⟨U_r _ (by omega) _ _ _, U_r _ (by omega) _ _ _, U_r _ (by omega) _ _ _⟩, fun i j hi => U_r _ (by omega) _ _ _⟩
  have h5 : ∀ u, u = t ∧ U W 5 t v 5 u = v ∨ u ≠ t ∧ U W 5 t v 5 u = W 5 u := fun u => by
    by_cases z : u = t
    · exact Or.inl ⟨z, by rw [z, U_s]⟩
    · exact Or.inr ⟨z, U_k _ _ _ z _⟩
  refine ⟨b.u (by omega) _ (show v < 5 by omega), k.fr s (fun u hu => ?_) (fun u s _ _ q => ?_), r.fr b.1.2.1 s (fun u s _ _ q => ?_), a.fr s.1.1 s.1.2.2 (fun u hu q => ?_) (fun j => U_r _ (by omega) _ _ _) (fun j => U_r _ (by omega) _ _ _) (fun j => U_r _ (by omega) _ _ _), l.fr b.1.2.1 s.1.1 s.1.2.2 (U_r _ (by omega) _ _ _) (fun j => U_r _ (by omega) _ _ _) (fun u _ => U_r _ (by omega) _ _ _) (fun u hu q => ?_) (fun u j _ _ q => ?_), iw.fr s.1.2.2 (fun j => U_r _ (by omega) _ _ _)⟩
  · rcases h5 u with ⟨z, e⟩ | ⟨z, e⟩
    · subst z; rw [e]; exact ⟨fun q => absurd q hv.1, fun q => absurd q h0⟩
    · rw [e]
  · rw [U_r _ (by omega)] at q; exact q
  · rw [U_r _ (by omega)] at q; exact q
  · rcases h5 u with ⟨z, e⟩ | ⟨z, e⟩
    · subst z; rw [e] at q; exact absurd q hv.2.1
    · rw [e] at q; exact q
  · rcases h5 u with ⟨z, e⟩ | ⟨z, e⟩
    · subst z; exact absurd q h0
    · rw [e]; exact q
  · rw [U_r _ (by omega)]; exact q
theorem Inv.send (h : Inv W) {kd fr to t : Nat} (hl : okL W kd fr to t) : Inv (wSend W kd fr to t) := by
  obtain ⟨b, k, r, a, l, iw⟩ := h
  have hb := b.1
  have hl' := hl
  obtain ⟨p1, p2, p3, p4, -⟩ := hl'
  have e : ∀ i j, i ≠ 0 → i ≠ 20 → wSend W kd fr to t i j = W i j := fun i j h1 h2 => wSend_r W kd fr to t ⟨h1, h2⟩ j
  have e0 : ∀ j, j ≠ 23 → j ≠ 24 → wSend W kd fr to t 0 j = W 0 j := fun j h1 h2 => wSend_k W kd fr to t ⟨h1, h2⟩
  have s : Sm W (wSend W kd fr to t) := ⟨⟨e0 _ (by omega) (by omega), e0 _ (by omega) (by omega), e0 _ (by omega) (by omega)⟩, fun i j hi => e _ _ (by omega) (by omega)⟩
  refine ⟨b.send (by omega) (by omega) (by omega) (by omega), k.fr s (fun u _ => by rw [e _ _ (by omega) (by omega)]) (fun u s _ _ q => by rw [e _ _ (by omega) (by omega)] at q; exact q), r.fr b.1.2.1 s (fun u s _ _ q => by rw [e _ _ (by omega) (by omega)] at q; exact q), a.fr s.1.1 s.1.2.2 (fun u _ q => by rw [e _ _ (by omega) (by omega)] at q; exact q) (fun j => e _ _ (by omega) (by omega)) (fun j => e _ _ (by omega) (by omega)) (fun j => e _ _ (by omega) (by omega)), fun j hj => ?_, iw.fr s.1.2.2 (fun j => e _ _ (by omega) (by omega))⟩
  have go : ∀ kd' fr' to' t', okL W kd' fr' to' t' → okL (wSend W kd fr to t) kd' fr' to' t' := fun _ _ _ _ q => q.fr b.1.2.1 s.1.1 s.1.2.2 (fun u _ => e _ _ (by omega) (by omega)) (fun u _ q => by rw [e _ _ (by omega) (by omega)]; exact q) (fun u j _ _ q => by rw [e _ _ (by omega) (by omega)]; exact q)
  by_cases c : W 0 23 = 300
  · have ew : wSend W kd fr to t = U W 0 24 (W 0 24 + 1) := if_pos c
    rw [ew] at hj
    rw [U_k _ _ _ (by omega)] at hj
    have := go _ _ _ _ (l j hj)
    rw [ew] at this ⊢
    simp (disch := omega) only [U_ne]
    exact this
  · have ew : wSend W kd fr to t = U (U (U (U (U (U W 0 24 (W 0 24 + 1)) 20 (4 * W 0 23) kd) 20 (4 * W 0 23 + 1) fr) 20 (4 * W 0 23 + 2) to) 20 (4 * W 0 23 + 3) t) 0 23 (W 0 23 + 1) := if_neg c
    rw [ew] at hj
    rw [U_s] at hj
    by_cases z : j = W 0 23
    · have := go _ _ _ _ hl
      rw [ew] at this ⊢
      subst z
      simp (disch := omega) only [U_ne, U_s]
      exact this
    · have := go _ _ _ _ (l j (by omega))
      rw [ew] at this ⊢
      simp (disch := omega) only [U_ne]
      exact this
theorem Inv.sends (h : Inv W) {kd fr t : Nat} {p : Nat → Prop} : ∀ m, (∀ s, s < m → p s → okL W kd fr s t) → Inv (sdF W kd fr t p m)
  | 0, _ => h
  | m + 1, hh => by
    have ih := Inv.sends h (kd := kd) (fr := fr) (t := t) (p := p) m (fun s hs => hh s (by omega))
    by_cases c : p m
    · rw [sdF_t c]
      refine ih.send ((hh m (by omega) c).fr h.1.1.2.1 (sdF_k _ _ _ _ _ (by omega) _) (sdF_k _ _ _ _ _ (by omega) _) (fun u _ => sdF_r _ _ _ _ _ (by omega) _ _) (fun u _ q => ?_) (fun u j _ _ q => ?_))
      · rw [sdF_r _ _ _ _ _ (by omega)]; exact q
      · rw [sdF_r _ _ _ _ _ (by omega)]; exact q
    · rw [sdF_f c]; exact ih
/-- applying -/
theorem K0.app (h : K0 W) (hb : W 0 0 ≤ 5) {f s : Nat} (hf : f < W 0 5) (hs : s < W 0 0) (hr : ready W f s) : K0 (wApp W f s) := by
  obtain ⟨j1, j2, j3, j4, j5, j6, j7, j8, j9, j12⟩ := h
  obtain ⟨f8, f5, -⟩ := j9 f s hf (by omega) hr.1.1
  have f6 := hr.1.2
  have f3 := j3 f hf f5
  have fa := j8 f hf
  have hne : s ≠ W 4 f := fun z => by rw [z] at f6; omega
  have a0 : wApp W f s 0 0 = W 0 0 := wApp_0 _ _ _ (by omega)
  have a5 : wApp W f s 0 5 = W 0 5 := wApp_0 _ _ _ (by omega)
  have a4 := wApp_04 W f s
  have e4 : ∀ j, wApp W f s 4 j = W 4 j := fun j => wApp_r _ _ _ (by omega) _
  have e5 : ∀ j, wApp W f s 5 j = W 5 j := fun j => wApp_r _ _ _ (by omega) _
  have e6 : ∀ j, wApp W f s 6 j = W 6 j := fun j => wApp_r _ _ _ (by omega) _
  have e7 : ∀ j, wApp W f s 7 j = W 7 j := fun j => wApp_r _ _ _ (by omega) _
  have ge : ∀ j, W 1 j ≤ wApp W f s 1 j := fun j => by rw [wApp_1]; split <;> omega
  have at1 : wApp W f s 1 (5 * s + W 4 f) = W 6 f := by rw [wApp_1, if_pos rfl]; omega
  unfold K0 J1 J2 J3 J4 J5 J6 I7 J8 J9 J12
  simp only [a0, a5, a4, e4, e5, e6, e7]
  refine ⟨fun u s' hu hs' q => ?_, fun u s' hu hs' q1 q2 => ?_, fun u hu q => ?_, j4, fun s' a hs' ha => ?_, fun t j ht hj => Nat.le_trans (j6 t j ht hj) (ge _), j7, j8, fun t s' ht hs' q => ?_, fun j => ?_, fun j hj => ?_, fun s' j h1 h2 h3 => ?_⟩
  · rw [wApp_8] at q
    by_cases z : 5 * u + s' = 5 * f + s
    · have z1 : u = f := by omega
      have z2 : s' = s := by omega
      subst z1 z2
      exact ⟨f5, by rw [at1]; exact Nat.le_refl _, hs⟩
    · rw [if_neg z] at q
      have := j1 u s' hu hs' q
      exact ⟨this.1, Nat.le_trans this.2.1 (ge _), this.2.2⟩
  · rw [wApp_8]
    by_cases z : 5 * u + s' = 5 * f + s
    · rw [if_pos z]; omega
    · rw [if_neg z]
      by_cases z1 : s' = s ∧ W 4 u = W 4 f
      · rw [z1.1, z1.2, at1] at q2
        by_cases z2 : W 6 u = W 6 f
        · have : u ≠ f := fun e => by rw [e, z1.1] at z; exact z rfl
          exact absurd z2 (j4 u f hu hf this q1 f5 z1.2)
        · rw [z1.1]; exact j2 u s hu hs q1 (by rw [z1.2]; omega)
      · rw [wApp_1, if_neg (by have := j8 u hu; omega)] at q2
        exact j2 u s' hu hs' q1 q2
  · have := j3 u hu q
    exact ⟨this.1, Nat.le_trans this.2 (ge _)⟩
  · have q := j5 s' a hs' ha
    by_cases z : 5 * s' + a = 5 * s + W 4 f
    · have z1 : s' = s := by omega
      have z2 : a = W 4 f := by omega
      subst z1 z2
      rw [at1]; exact Nat.le_trans f3.2 (ge _)
    · rw [wApp_1, if_neg z]; exact Nat.le_trans q (ge _)
  · rw [wApp_9] at q
    rw [wApp_8]
    by_cases z : 5 * t + s' = 5 * f + s
    · rw [if_pos z] at q; exact absurd rfl q
    · rw [if_neg z] at q ⊢; exact j9 t s' ht hs' q
  · rw [wApp_1]
    have := j12.1 j
    split <;> omega
  · rw [wApp_1, if_neg (by omega)]; exact j12.2.1 j hj
  · rw [wApp_1, if_neg (by omega)]; exact j12.2.2 s' j h1 h2 h3
theorem stl_inv {s : Nat} : ∀ m W d, Bd W → K0 W → s < W 0 0 → (∀ t s', t < W 0 5 → s' < W 0 0 → s' ≠ s → ¬ ready W t s') → kp W s ≤ m → W 0 4 + m < 1073741824 → Bd (stl s m W d).1 ∧ K0 (stl s m W d).1 ∧ JR (stl s m W d).1 ∧ (∀ j, j ≠ 4 → (stl s m W d).1 0 j = W 0 j) ∧ ∀ i j, i ≠ 0 → i ≠ 1 → i ≠ 3 → i ≠ 8 → i ≠ 9 → (stl s m W d).1 i j = W i j := by
  intro m
  induction m with
  | zero =>
    intro W d hb k hs ho hk _
    refine ⟨hb, k, fun t s' ht hs' q => ?_, fun _ _ => rfl, fun _ _ _ _ _ _ _ => rfl⟩
    by_cases z : s' = s
    · subst z
      have := ct_pos (p := fun t => W 9 (5 * t + s') ≠ 0) (f := t) q.1.1 (W 0 5) ht
      unfold kp at hk
      omega
    · exact ho t s' ht hs' z q
  | succ m ih =>
    intro W d hb k hs ho hk hv
    have hl := lst_spec W s
    have es : stl s (m + 1) W d = if lst W s = 4294967295 then (W, d) else stl s m (wApp W (lst W s) s) (d + 1) := rfl
    have hb1 := hb.1
    rw [es]
    by_cases c : lst W s = 4294967295
    · rw [if_pos c]
      refine ⟨hb, k, fun t s' ht hs' q => ?_, fun _ _ => rfl, fun _ _ _ _ _ _ _ => rfl⟩
      by_cases z : s' = s
      · subst z
        rcases hl with ⟨-, q2⟩ | q2
        · exact q2 t (by omega) ht q
        · omega
      · exact ho t s' ht hs' z q
    · rw [if_neg c]
      obtain ⟨hf, hrd⟩ : lst W s < W 0 5 ∧ ready W (lst W s) s := by
        rcases hl with q | q
        · exact absurd q.1 c
        · exact ⟨q.2.1, q.2.2.1⟩
      have j12 := k.2.2.2.2.2.2.2.2.2.1 (5 * s + W 4 (lst W s))
      have a0 : wApp W (lst W s) s 0 0 = W 0 0 := wApp_0 _ _ _ (by omega)
      have a5 : wApp W (lst W s) s 0 5 = W 0 5 := wApp_0 _ _ _ (by omega)
      have a4 := wApp_04 W (lst W s) s
      have hkp := kp_app (s := s) (by omega) hf hrd
      have h4 := k.2.2.2.2.2.2.2.1 _ hf
      obtain ⟨r1, r2, r3, r4, r5⟩ := ih (wApp W (lst W s) s) (d + 1) (bd_app hb (by omega) (by omega)) (k.app hb1.2.1 hf hs hrd) (by rw [a0]; exact hs) (fun t s' ht hs' hne q => by
        rw [a5] at ht
        rw [a0] at hs'
        refine ho t s' ht hs' hne ?_
        have h4t := k.2.2.2.2.2.2.2.1 t ht
        unfold ready at q ⊢
        have e6 : wApp W (lst W s) s 6 t = W 6 t := wApp_r _ _ _ (by omega) _
        have e4 : wApp W (lst W s) s 4 t = W 4 t := wApp_r _ _ _ (by omega) _
        rw [a0, wApp_9, if_neg (by omega), e6, e4, wApp_1, if_neg (by omega)] at q
        refine ⟨q.1, fun i hi => ?_⟩
        have z : wApp W (lst W s) s 7 (5 * t + i) ≤ wApp W (lst W s) s 1 (5 * s' + i) := q.2 i hi
        have e7 : wApp W (lst W s) s 7 (5 * t + i) = W 7 (5 * t + i) := wApp_r _ _ _ (by omega) _
        rw [e7, wApp_1, if_neg (by omega)] at z
        exact z) (by omega) (by rw [a4]; omega)
      refine ⟨r1, r2, r3, fun j hj => by rw [r4 j hj, wApp_0 _ _ _ hj], fun i j h0 h1 h3 h8 h9 => by rw [r5 i j h0 h1 h3 h8 h9, wApp_r _ _ _ ⟨h0, h1, h3, h8, h9⟩]⟩
/-- nothing ready: nothing to settle -/
theorem stl_none {s : Nat} (h : ∀ t, t < W 0 5 → ¬ ready W t s) : ∀ m d, stl s m W d = (W, d)
  | 0, _ => rfl
  | m + 1, d => by
    have hl := lst_spec W s
    have c : lst W s = 4294967295 := by
      rcases hl with q | q
      · exact q.1
      · exact absurd q.2.2.1 (h _ q.2.1)
    show (if lst W s = 4294967295 then (W, d) else _) = _
    rw [if_pos c]
end
