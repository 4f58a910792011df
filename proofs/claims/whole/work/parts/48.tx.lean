/-! One transaction's numbers change -/
section
variable {C W : Ab}
theorem rl_2 (r : Rl C W) {t v : Nat} (ht : t < W 0 5) {W' : Ab} (hr : ∀ i j, i ≠ 5 → W' i j = W i j) (hW : Wt W W' t) (hv : v < 5) (hn : v = W' 5 t) : Rl (U C (100 + 5 * t) 2 v) W' := by
  have hb := r.b
  have h17 := r.b17 ht
  obtain ⟨⟨a0, a1, a2, a3, a7, a15⟩, a4, ⟨a5, a6⟩, a8, b10, b11, b12, b13, b14⟩ := r.t ht
  have cU : ∀ q, q ≠ 2 → U C (100 + 5 * t) 2 v (100 + 5 * t) q = C (100 + 5 * t) q := fun q hq => U_k _ _ _ hq _
  have cR : ∀ a q, a ≠ 100 + 5 * t → U C (100 + 5 * t) 2 v a q = C a q := fun a q ha => U_r _ ha _ _ _
  refine rl_tx r ht (fun a j ha => cR a j (by omega)) hW (fun a q h1 h2 => ?_) ⟨⟨?_, ?_, ?_, ?_, ?_, ?_⟩, fun j hj => ?_, ⟨?_, fun o ho hw => ?_⟩, fun j hj => ?_, ?_, ?_, ?_, ?_, ?_⟩
  · by_cases z : a = 100 + 5 * t ∧ q = 2
    · refine Or.inr (Or.inr ?_)
      rw [z.1, z.2, U_s, cb_t t _ (by omega)]
      show v < 5
      exact hv
    · exact Or.inl (U_ne _ (by omega) _)
  · rw [cU 0 (by omega)]; exact a0
  · rw [cU 1 (by omega), hr _ _ (by omega)]; exact a1
  · rw [U_s]; exact hn
  · rw [cU 3 (by omega), hr _ _ (by omega)]; exact a3
  · rw [cU 7 (by omega), hr _ _ (by omega)]; exact a7
  · rw [cU 15 (by omega), hr _ _ (by omega)]; exact a15
  · rw [cR _ _ (by omega), hr _ _ (by omega)]; exact a4 j hj
  · rw [cU 5 (by omega)]; exact a5.congr (fun o ho => by unfold wr; rw [hr _ _ (by omega)])
  · rw [cR _ _ (by omega), hr _ _ (by omega)]; exact a6 o ho (by unfold wr at hw ⊢; rw [hr _ _ (by omega)] at hw; exact hw)
  · rw [hr _ _ (by omega)] at hj
    rw [cR _ _ (by omega), cR _ _ (by omega), hr _ _ (by omega), hr _ _ (by omega)]; exact a8 j hj
  · rw [cU 10 (by omega)]; exact b10.congr (fun s hs => by rw [hr _ _ (by omega)])
  · rw [cU 11 (by omega)]; exact b11.congr (fun s hs => by rw [hr _ _ (by omega)])
  · rw [cU 12 (by omega)]; exact b12.congr (fun s hs => by rw [hr _ _ (by omega)])
  · rw [cU 13 (by omega)]; exact b13.congr (fun s hs => by rw [hr _ _ (by omega)])
  · rw [cU 14 (by omega)]; exact b14.congr (fun s hs => by rw [hr _ _ (by omega)])
theorem rl_3 (r : Rl C W) {t v : Nat} (ht : t < W 0 5) {W' : Ab} (hr : ∀ i j, i ≠ 6 → W' i j = W i j) (hW : Wt W W' t) (hv : v < 1073741824) (hn : v = W' 6 t) : Rl (U C (100 + 5 * t) 3 v) W' := by
  have hb := r.b
  have h17 := r.b17 ht
  obtain ⟨⟨a0, a1, a2, a3, a7, a15⟩, a4, ⟨a5, a6⟩, a8, b10, b11, b12, b13, b14⟩ := r.t ht
  have cU : ∀ q, q ≠ 3 → U C (100 + 5 * t) 3 v (100 + 5 * t) q = C (100 + 5 * t) q := fun q hq => U_k _ _ _ hq _
  have cR : ∀ a q, a ≠ 100 + 5 * t → U C (100 + 5 * t) 3 v a q = C a q := fun a q ha => U_r _ ha _ _ _
  refine rl_tx r ht (fun a j ha => cR a j (by omega)) hW (fun a q h1 h2 => ?_) ⟨⟨?_, ?_, ?_, ?_, ?_, ?_⟩, fun j hj => ?_, ⟨?_, fun o ho hw => ?_⟩, fun j hj => ?_, ?_, ?_, ?_, ?_, ?_⟩
  · by_cases z : a = 100 + 5 * t ∧ q = 3
    · refine Or.inr (Or.inr ?_)
      rw [z.1, z.2, U_s, cb_t t _ (by omega)]
      show v < 1073741824
      exact hv
    · exact Or.inl (U_ne _ (by omega) _)
  · rw [cU 0 (by omega)]; exact a0
  · rw [cU 1 (by omega), hr _ _ (by omega)]; exact a1
  · rw [cU 2 (by omega), hr _ _ (by omega)]; exact a2
  · rw [U_s]; exact hn
  · rw [cU 7 (by omega), hr _ _ (by omega)]; exact a7
  · rw [cU 15 (by omega), hr _ _ (by omega)]; exact a15
  · rw [cR _ _ (by omega), hr _ _ (by omega)]; exact a4 j hj
  · rw [cU 5 (by omega)]; exact a5.congr (fun o ho => by unfold wr; rw [hr _ _ (by omega)])
  · rw [cR _ _ (by omega), hr _ _ (by omega)]; exact a6 o ho (by unfold wr at hw ⊢; rw [hr _ _ (by omega)] at hw; exact hw)
  · rw [hr _ _ (by omega)] at hj
    rw [cR _ _ (by omega), cR _ _ (by omega), hr _ _ (by omega), hr _ _ (by omega)]; exact a8 j hj
  · rw [cU 10 (by omega)]; exact b10.congr (fun s hs => by rw [hr _ _ (by omega)])
  · rw [cU 11 (by omega)]; exact b11.congr (fun s hs => by rw [hr _ _ (by omega)])
  · rw [cU 12 (by omega)]; exact b12.congr (fun s hs => by rw [hr _ _ (by omega)])
  · rw [cU 13 (by omega)]; exact b13.congr (fun s hs => by rw [hr _ _ (by omega)])
  · rw [cU 14 (by omega)]; exact b14.congr (fun s hs => by rw [hr _ _ (by omega)])
theorem rl_15 (r : Rl C W) {t v : Nat} (ht : t < W 0 5) {W' : Ab} (hr : ∀ i j, i ≠ 19 → W' i j = W i j) (hW : Wt W W' t) (hv : v < 2) (hn : v = bp (W' 19 t ≠ 0)) : Rl (U C (100 + 5 * t) 15 v) W' := by
  have hb := r.b
  have h17 := r.b17 ht
  obtain ⟨⟨a0, a1, a2, a3, a7, a15⟩, a4, ⟨a5, a6⟩, a8, b10, b11, b12, b13, b14⟩ := r.t ht
  have cU : ∀ q, q ≠ 15 → U C (100 + 5 * t) 15 v (100 + 5 * t) q = C (100 + 5 * t) q := fun q hq => U_k _ _ _ hq _
  have cR : ∀ a q, a ≠ 100 + 5 * t → U C (100 + 5 * t) 15 v a q = C a q := fun a q ha => U_r _ ha _ _ _
  refine rl_tx r ht (fun a j ha => cR a j (by omega)) hW (fun a q h1 h2 => ?_) ⟨⟨?_, ?_, ?_, ?_, ?_, ?_⟩, fun j hj => ?_, ⟨?_, fun o ho hw => ?_⟩, fun j hj => ?_, ?_, ?_, ?_, ?_, ?_⟩
  · by_cases z : a = 100 + 5 * t ∧ q = 15
    · refine Or.inr (Or.inr ?_)
      rw [z.1, z.2, U_s, cb_t t _ (by omega)]
      show v < 2
      exact hv
    · exact Or.inl (U_ne _ (by omega) _)
  · rw [cU 0 (by omega)]; exact a0
  · rw [cU 1 (by omega), hr _ _ (by omega)]; exact a1
  · rw [cU 2 (by omega), hr _ _ (by omega)]; exact a2
  · rw [cU 3 (by omega), hr _ _ (by omega)]; exact a3
  · rw [cU 7 (by omega), hr _ _ (by omega)]; exact a7
  · rw [U_s]; exact hn
  · rw [cR _ _ (by omega), hr _ _ (by omega)]; exact a4 j hj
  · rw [cU 5 (by omega)]; exact a5.congr (fun o ho => by unfold wr; rw [hr _ _ (by omega)])
  · rw [cR _ _ (by omega), hr _ _ (by omega)]; exact a6 o ho (by unfold wr at hw ⊢; rw [hr _ _ (by omega)] at hw; exact hw)
  · rw [hr _ _ (by omega)] at hj
    rw [cR _ _ (by omega), cR _ _ (by omega), hr _ _ (by omega), hr _ _ (by omega)]; exact a8 j hj
  · rw [cU 10 (by omega)]; exact b10.congr (fun s hs => by rw [hr _ _ (by omega)])
  · rw [cU 11 (by omega)]; exact b11.congr (fun s hs => by rw [hr _ _ (by omega)])
  · rw [cU 12 (by omega)]; exact b12.congr (fun s hs => by rw [hr _ _ (by omega)])
  · rw [cU 13 (by omega)]; exact b13.congr (fun s hs => by rw [hr _ _ (by omega)])
  · rw [cU 14 (by omega)]; exact b14.congr (fun s hs => by rw [hr _ _ (by omega)])
theorem rl_10 (r : Rl C W) {t v : Nat} (ht : t < W 0 5) {W' : Ab} (hr : ∀ i j, i ≠ 11 → W' i j = W i j) (hW : Wt W W' t) (hn : Bt v 5 (fun s => W' 11 (5 * t + s) ≠ 0)) : Rl (U C (100 + 5 * t) 10 v) W' := by
  have hb := r.b
  have h17 := r.b17 ht
  obtain ⟨⟨a0, a1, a2, a3, a7, a15⟩, a4, ⟨a5, a6⟩, a8, b10, b11, b12, b13, b14⟩ := r.t ht
  have cU : ∀ q, q ≠ 10 → U C (100 + 5 * t) 10 v (100 + 5 * t) q = C (100 + 5 * t) q := fun q hq => U_k _ _ _ hq _
  have cR : ∀ a q, a ≠ 100 + 5 * t → U C (100 + 5 * t) 10 v a q = C a q := fun a q ha => U_r _ ha _ _ _
  refine rl_tx r ht (fun a j ha => cR a j (by omega)) hW (fun a q h1 h2 => ?_) ⟨⟨?_, ?_, ?_, ?_, ?_, ?_⟩, fun j hj => ?_, ⟨?_, fun o ho hw => ?_⟩, fun j hj => ?_, ?_, ?_, ?_, ?_, ?_⟩
  · by_cases z : a = 100 + 5 * t ∧ q = 10
    · refine Or.inr (Or.inr ?_)
      rw [z.1, z.2, U_s, cb_t t _ (by omega)]
      show v < 32
      exact hn.1
    · exact Or.inl (U_ne _ (by omega) _)
  · rw [cU 0 (by omega)]; exact a0
  · rw [cU 1 (by omega), hr _ _ (by omega)]; exact a1
  · rw [cU 2 (by omega), hr _ _ (by omega)]; exact a2
  · rw [cU 3 (by omega), hr _ _ (by omega)]; exact a3
  · rw [cU 7 (by omega), hr _ _ (by omega)]; exact a7
  · rw [cU 15 (by omega), hr _ _ (by omega)]; exact a15
  · rw [cR _ _ (by omega), hr _ _ (by omega)]; exact a4 j hj
  · rw [cU 5 (by omega)]; exact a5.congr (fun o ho => by unfold wr; rw [hr _ _ (by omega)])
  · rw [cR _ _ (by omega), hr _ _ (by omega)]; exact a6 o ho (by unfold wr at hw ⊢; rw [hr _ _ (by omega)] at hw; exact hw)
  · rw [hr _ _ (by omega)] at hj
    rw [cR _ _ (by omega), cR _ _ (by omega), hr _ _ (by omega), hr _ _ (by omega)]; exact a8 j hj
  · rw [U_s]; exact hn
  · rw [cU 11 (by omega)]; exact b11.congr (fun s hs => by rw [hr _ _ (by omega)])
  · rw [cU 12 (by omega)]; exact b12.congr (fun s hs => by rw [hr _ _ (by omega)])
  · rw [cU 13 (by omega)]; exact b13.congr (fun s hs => by rw [hr _ _ (by omega)])
  · rw [cU 14 (by omega)]; exact b14.congr (fun s hs => by rw [hr _ _ (by omega)])
theorem rl_11 (r : Rl C W) {t v : Nat} (ht : t < W 0 5) {W' : Ab} (hr : ∀ i j, i ≠ 12 → W' i j = W i j) (hW : Wt W W' t) (hn : Bt v 5 (fun s => W' 12 (5 * t + s) ≠ 0)) : Rl (U C (100 + 5 * t) 11 v) W' := by
  have hb := r.b
  have h17 := r.b17 ht
  obtain ⟨⟨a0, a1, a2, a3, a7, a15⟩, a4, ⟨a5, a6⟩, a8, b10, b11, b12, b13, b14⟩ := r.t ht
  have cU : ∀ q, q ≠ 11 → U C (100 + 5 * t) 11 v (100 + 5 * t) q = C (100 + 5 * t) q := fun q hq => U_k _ _ _ hq _
  have cR : ∀ a q, a ≠ 100 + 5 * t → U C (100 + 5 * t) 11 v a q = C a q := fun a q ha => U_r _ ha _ _ _
  refine rl_tx r ht (fun a j ha => cR a j (by omega)) hW (fun a q h1 h2 => ?_) ⟨⟨?_, ?_, ?_, ?_, ?_, ?_⟩, fun j hj => ?_, ⟨?_, fun o ho hw => ?_⟩, fun j hj => ?_, ?_, ?_, ?_, ?_, ?_⟩
  · by_cases z : a = 100 + 5 * t ∧ q = 11
    · refine Or.inr (Or.inr ?_)
      rw [z.1, z.2, U_s, cb_t t _ (by omega)]
      show v < 32
      exact hn.1
    · exact Or.inl (U_ne _ (by omega) _)
  · rw [cU 0 (by omega)]; exact a0
  · rw [cU 1 (by omega), hr _ _ (by omega)]; exact a1
  · rw [cU 2 (by omega), hr _ _ (by omega)]; exact a2
  · rw [cU 3 (by omega), hr _ _ (by omega)]; exact a3
  · rw [cU 7 (by omega), hr _ _ (by omega)]; exact a7
  · rw [cU 15 (by omega), hr _ _ (by omega)]; exact a15
  · rw [cR _ _ (by omega), hr _ _ (by omega)]; exact a4 j hj
  · rw [cU 5 (by omega)]; exact a5.congr (fun o ho => by unfold wr; rw [hr _ _ (by omega)])
  · rw [cR _ _ (by omega), hr _ _ (by omega)]; exact a6 o ho (by unfold wr at hw ⊢; rw [hr _ _ (by omega)] at hw; exact hw)
  · rw [hr _ _ (by omega)] at hj
    rw [cR _ _ (by omega), cR _ _ (by omega), hr _ _ (by omega), hr _ _ (by omega)]; exact a8 j hj
  · rw [cU 10 (by omega)]; exact b10.congr (fun s hs => by rw [hr _ _ (by omega)])
  · rw [U_s]; exact hn
  · rw [cU 12 (by omega)]; exact b12.congr (fun s hs => by rw [hr _ _ (by omega)])
  · rw [cU 13 (by omega)]; exact b13.congr (fun s hs => by rw [hr _ _ (by omega)])
  · rw [cU 14 (by omega)]; exact b14.congr (fun s hs => by rw [hr _ _ (by omega)])
theorem rl_13 (r : Rl C W) {t v : Nat} (ht : t < W 0 5) {W' : Ab} (hr : ∀ i j, i ≠ 9 → W' i j = W i j) (hW : Wt W W' t) (hn : Bt v 5 (fun s => W' 9 (5 * t + s) ≠ 0)) : Rl (U C (100 + 5 * t) 13 v) W' := by
  have hb := r.b
  have h17 := r.b17 ht
  obtain ⟨⟨a0, a1, a2, a3, a7, a15⟩, a4, ⟨a5, a6⟩, a8, b10, b11, b12, b13, b14⟩ := r.t ht
  have cU : ∀ q, q ≠ 13 → U C (100 + 5 * t) 13 v (100 + 5 * t) q = C (100 + 5 * t) q := fun q hq => U_k _ _ _ hq _
  have cR : ∀ a q, a ≠ 100 + 5 * t → U C (100 + 5 * t) 13 v a q = C a q := fun a q ha => U_r _ ha _ _ _
  refine rl_tx r ht (fun a j ha => cR a j (by omega)) hW (fun a q h1 h2 => ?_) ⟨⟨?_, ?_, ?_, ?_, ?_, ?_⟩, fun j hj => ?_, ⟨?_, fun o ho hw => ?_⟩, fun j hj => ?_, ?_, ?_, ?_, ?_, ?_⟩
  · by_cases z : a = 100 + 5 * t ∧ q = 13
    · refine Or.inr (Or.inr ?_)
      rw [z.1, z.2, U_s, cb_t t _ (by omega)]
      show v < 32
      exact hn.1
    · exact Or.inl (U_ne _ (by omega) _)
  · rw [cU 0 (by omega)]; exact a0
  · rw [cU 1 (by omega), hr _ _ (by omega)]; exact a1
  · rw [cU 2 (by omega), hr _ _ (by omega)]; exact a2
  · rw [cU 3 (by omega), hr _ _ (by omega)]; exact a3
  · rw [cU 7 (by omega), hr _ _ (by omega)]; exact a7
  · rw [cU 15 (by omega), hr _ _ (by omega)]; exact a15
  · rw [cR _ _ (by omega), hr _ _ (by omega)]; exact a4 j hj
  · rw [cU 5 (by omega)]; exact a5.congr (fun o ho => by unfold wr; rw [hr _ _ (by omega)])
  · rw [cR _ _ (by omega), hr _ _ (by omega)]; exact a6 o ho (by unfold wr at hw ⊢; rw [hr _ _ (by omega)] at hw; exact hw)
  · rw [hr _ _ (by omega)] at hj
    rw [cR _ _ (by omega), cR _ _ (by omega), hr _ _ (by omega), hr _ _ (by omega)]; exact a8 j hj
  · rw [cU 10 (by omega)]; exact b10.congr (fun s hs => by rw [hr _ _ (by omega)])
  · rw [cU 11 (by omega)]; exact b11.congr (fun s hs => by rw [hr _ _ (by omega)])
  · rw [cU 12 (by omega)]; exact b12.congr (fun s hs => by rw [hr _ _ (by omega)])
  · rw [U_s]; exact hn
  · rw [cU 14 (by omega)]; exact b14.congr (fun s hs => by rw [hr _ _ (by omega)])
theorem rl_14 (r : Rl C W) {t v : Nat} (ht : t < W 0 5) {W' : Ab} (hr : ∀ i j, i ≠ 10 → W' i j = W i j) (hW : Wt W W' t) (hn : Bt v 5 (fun s => W' 10 (5 * t + s) ≠ 0)) : Rl (U C (100 + 5 * t) 14 v) W' := by
  have hb := r.b
  have h17 := r.b17 ht
  obtain ⟨⟨a0, a1, a2, a3, a7, a15⟩, a4, ⟨a5, a6⟩, a8, b10, b11, b12, b13, b14⟩ := r.t ht
  have cU : ∀ q, q ≠ 14 → U C (100 + 5 * t) 14 v (100 + 5 * t) q = C (100 + 5 * t) q := fun q hq => U_k _ _ _ hq _
  have cR : ∀ a q, a ≠ 100 + 5 * t → U C (100 + 5 * t) 14 v a q = C a q := fun a q ha => U_r _ ha _ _ _
  refine rl_tx r ht (fun a j ha => cR a j (by omega)) hW (fun a q h1 h2 => ?_) ⟨⟨?_, ?_, ?_, ?_, ?_, ?_⟩, fun j hj => ?_, ⟨?_, fun o ho hw => ?_⟩, fun j hj => ?_, ?_, ?_, ?_, ?_, ?_⟩
  · by_cases z : a = 100 + 5 * t ∧ q = 14
    · refine Or.inr (Or.inr ?_)
      rw [z.1, z.2, U_s, cb_t t _ (by omega)]
      show v < 32
      exact hn.1
    · exact Or.inl (U_ne _ (by omega) _)
  · rw [cU 0 (by omega)]; exact a0
  · rw [cU 1 (by omega), hr _ _ (by omega)]; exact a1
  · rw [cU 2 (by omega), hr _ _ (by omega)]; exact a2
  · rw [cU 3 (by omega), hr _ _ (by omega)]; exact a3
  · rw [cU 7 (by omega), hr _ _ (by omega)]; exact a7
  · rw [cU 15 (by omega), hr _ _ (by omega)]; exact a15
  · rw [cR _ _ (by omega), hr _ _ (by omega)]; exact a4 j hj
  · rw [cU 5 (by omega)]; exact a5.congr (fun o ho => by unfold wr; rw [hr _ _ (by omega)])
  · rw [cR _ _ (by omega), hr _ _ (by omega)]; exact a6 o ho (by unfold wr at hw ⊢; rw [hr _ _ (by omega)] at hw; exact hw)
  · rw [hr _ _ (by omega)] at hj
    rw [cR _ _ (by omega), cR _ _ (by omega), hr _ _ (by omega), hr _ _ (by omega)]; exact a8 j hj
  · rw [cU 10 (by omega)]; exact b10.congr (fun s hs => by rw [hr _ _ (by omega)])
  · rw [cU 11 (by omega)]; exact b11.congr (fun s hs => by rw [hr _ _ (by omega)])
  · rw [cU 12 (by omega)]; exact b12.congr (fun s hs => by rw [hr _ _ (by omega)])
  · rw [cU 13 (by omega)]; exact b13.congr (fun s hs => by rw [hr _ _ (by omega)])
  · rw [U_s]; exact hn
theorem rl_18 (r : Rl C W) {t : Nat} (ht : t < W 0 5) (v : Nat) : Rl C (U W 18 t v) := by
  have h17 := r.b17 ht
  refine rl_tx r ht (fun a j _ => rfl) ((Wt.refl W t).u (by unfold own; omega) v) (fun a q _ _ => Or.inl rfl) ((r.t ht).fr (fun _ _ _ _ => rfl) (fun i hi => U_r _ (by omega) _ _ _) (fun i j hi hj => U_r _ (by omega) _ _ _) (fun i j hi hj => U_r _ (by omega) _ _ _) h17)
/-- thrown is nobody's -/
theorem rl_th (r : Rl C W) (v : Nat) : Rl C (U W 0 27 v) := by
  refine rl_let r (fun a j _ => Or.inl rfl) rfl (fun i j h1 _ => U_r _ h1 _ _ _) ⟨U_k _ _ _ (by omega) _, U_k _ _ _ (by omega) _, U_k _ _ _ (by omega) _⟩ ?_ ?_ ?_ (fun j k hj hk => ?_)
  · rw [U_k _ _ _ (by omega)]; exact r.s.2.2.1
  · rw [U_k _ _ _ (by omega)]; exact r.s.2.2.2
  · rw [U_k _ _ _ (by omega)]; exact r.b.2.2.1
  · rw [U_k _ _ _ (by omega)] at hj
    rw [U_r _ (by omega)]; exact r.l j k hj hk
theorem rl_state (r : Rl C W) {t v : Nat} (ht : t < W 0 5) (hv : v < 5) : Rl (U C (100 + 5 * t) 2 v) (U W 5 t v) := rl_2 r ht (fun i j hi => U_r _ hi _ _ _) ((Wt.refl W t).u (by unfold own; omega) v) hv (U_s _ _ _ _).symm
theorem rl_seq (r : Rl C W) {t v : Nat} (ht : t < W 0 5) (hv : v < 1073741824) : Rl (U C (100 + 5 * t) 3 v) (U W 6 t v) := rl_3 r ht (fun i j hi => U_r _ hi _ _ _) ((Wt.refl W t).u (by unfold own; omega) v) hv (U_s _ _ _ _).symm
theorem rl_owes (r : Rl C W) {t v : Nat} (ht : t < W 0 5) : Rl (U C (100 + 5 * t) 15 (bp (v ≠ 0))) (U W 19 t v) := rl_15 r ht (fun i j hi => U_r _ hi _ _ _) ((Wt.refl W t).u (by unfold own; omega) v) (by have := bp_le (v ≠ 0); omega) (by rw [U_s])
/-- a bit more, a bit less -/
theorem bt_set {w t s i : Nat} (hs : s < 5) (h : Bt w 5 (fun j => W i (5 * t + j) ≠ 0)) : Bt (w ||| 1 <<< s) 5 (fun j => U W i (5 * t + s) 1 i (5 * t + j) ≠ 0) := (h.or (Bt.one hs)).congr (fun j hj => by
    by_cases c : j = s
    · subst c; rw [U_s]; simp
    · rw [U_k _ _ _ (by omega)]; simp [c])
theorem bt_del {w t s i : Nat} (hs : s < 5) (h : Bt w 5 (fun j => W i (5 * t + j) ≠ 0)) : Bt (w &&& (1 <<< s ^^^ 4294967295)) 5 (fun j => U W i (5 * t + s) 0 i (5 * t + j) ≠ 0) := (h.andn (by omega) (Bt.one hs)).congr (fun j hj => by
    by_cases c : j = s
    · subst c; rw [U_s]; simp
    · rw [U_k _ _ _ (by omega)]; simp [c])
theorem rl_said (r : Rl C W) {t s : Nat} (ht : t < W 0 5) (hs : s < 5) : Rl (U C (100 + 5 * t) 11 (C (100 + 5 * t) 11 ||| 1 <<< s)) (U W 12 (5 * t + s) 1) := rl_11 r ht (fun i j hi => U_r _ hi _ _ _) ((Wt.refl W t).u (by unfold own; omega) 1) (bt_set hs (r.t ht).2.2.2.2.2.1)
theorem rl_keep (r : Rl C W) {t s : Nat} (ht : t < W 0 5) (hs : s < 5) : Rl (U C (100 + 5 * t) 13 (C (100 + 5 * t) 13 ||| 1 <<< s)) (U W 9 (5 * t + s) 1) := rl_13 r ht (fun i j hi => U_r _ hi _ _ _) ((Wt.refl W t).u (by unfold own; omega) 1) (bt_set hs (r.t ht).2.2.2.2.2.2.2.1)
theorem rl_unkeep (r : Rl C W) {t s : Nat} (ht : t < W 0 5) (hs : s < 5) : Rl (U C (100 + 5 * t) 13 (C (100 + 5 * t) 13 &&& (1 <<< s ^^^ 4294967295))) (U W 9 (5 * t + s) 0) := rl_13 r ht (fun i j hi => U_r _ hi _ _ _) ((Wt.refl W t).u (by unfold own; omega) 0) (bt_del hs (r.t ht).2.2.2.2.2.2.2.1)
theorem rl_free (r : Rl C W) {t s : Nat} (ht : t < W 0 5) (hs : s < 5) : Rl (U C (100 + 5 * t) 14 (C (100 + 5 * t) 14 ||| 1 <<< s)) (U W 10 (5 * t + s) 1) := rl_14 r ht (fun i j hi => U_r _ hi _ _ _) ((Wt.refl W t).u (by unfold own; omega) 1) (bt_set hs (r.t ht).2.2.2.2.2.2.2.2)
/-- applying -/
theorem wApp_1 (W : Ab) (t s j : Nat) : wApp W t s 1 j = if j = 5 * s + W 4 t then W 1 j + 1 else W 1 j := by
  unfold wApp
  rw [unl_r _ _ _ (by omega)]
  by_cases c : j = 5 * s + W 4 t
  · rw [if_pos c]; simp (disch := omega) only [U_ne]; rw [c, U_s]
  · rw [if_neg c]; simp (disch := omega) only [U_ne]
theorem wApp_8 (W : Ab) (t s j : Nat) : wApp W t s 8 j = if j = 5 * t + s then W 0 4 + 1 else W 8 j := by
  unfold wApp
  rw [unl_r _ _ _ (by omega)]
  by_cases c : j = 5 * t + s
  · rw [if_pos c]; simp (disch := omega) only [U_ne]; rw [c, U_s]
  · rw [if_neg c]; simp (disch := omega) only [U_ne]
theorem wApp_3 (W : Ab) (t s j : Nat) : wApp W t s 3 j = if 20 * s ≤ j ∧ j < 20 * s + 20 ∧ W 3 j = t then 4294967295 else W 3 j := by
  unfold wApp
  rw [unl_c]
  simp (disch := omega) only [U_ne]
theorem wApp_04 (W : Ab) (t s : Nat) : wApp W t s 0 4 = W 0 4 + 1 := by
  unfold wApp
  rw [unl_r _ _ _ (by omega)]
  simp (disch := omega) only [U_ne, U_s]
theorem sm_add {g g' : Nat → Nat} {t c : Nat} (h' : g' t = g t + c) : ∀ n, t < n → (∀ i, i < n → i ≠ t → g' i = g i) → sm g' n = sm g n + c
  | 0, h, _ => by omega
  | n + 1, h, hh => by
    show sm g' n + g' n = sm g n + g n + c
    by_cases e : t = n
    · subst e
      rw [sm_congr t (fun i hi => hh i (by omega) (by omega)), h']; omega
    · rw [sm_add h' n (by omega) (fun i hi hne => hh i (by omega) hne), hh n (by omega) (fun z => e z.symm)]; omega
theorem rl_app (r : Rl C W) {t s : Nat} (ht : t < W 0 5) (hs : s < 5) (h8 : W 8 (5 * t + s) = 0) (hv : C (3 + 4 * s) (W 4 t) + 1 < 1073741824) {C' : Ab}
    (c5 : ∀ i, C' (5 + 4 * s) i = if i = C (2 + 4 * s) 4 then t else C (5 + 4 * s) i)
    (c2 : C' (2 + 4 * s) 4 = C (2 + 4 * s) 4 + 1) (c20 : ∀ j, j ≠ 4 → C' (2 + 4 * s) j = C (2 + 4 * s) j)
    (c3 : ∀ j, C' (3 + 4 * s) j = if j = W 4 t then C (3 + 4 * s) j + 1 else C (3 + 4 * s) j)
    (c4 : ∀ o, C' (4 + 4 * s) o = if o < 20 ∧ C (4 + 4 * s) o = t then 4294967295 else C (4 + 4 * s) o)
    (c12 : C' (100 + 5 * t) 12 = C (100 + 5 * t) 12 ||| 1 <<< s) (c13 : C' (100 + 5 * t) 13 = C (100 + 5 * t) 13 &&& (1 <<< s ^^^ 4294967295))
    (c1 : ∀ j, j ≠ 12 → j ≠ 13 → C' (100 + 5 * t) j = C (100 + 5 * t) j)
    (co : ∀ a j, a ≠ 2 + 4 * s → a ≠ 3 + 4 * s → a ≠ 4 + 4 * s → a ≠ 5 + 4 * s → a ≠ 100 + 5 * t → C' a j = C a j) : Rl C' (wApp W t s) := by
  have hb := r.b
  have q2 := r.q.2.1
  have h4 : W 4 t < 5 := by have := (cbT r.q (r.c ht)).1.2.1; rw [(r.t ht).1.2.1] at this; exact this
  have h17 := r.b17 ht
  have e0 : ∀ j, j ≠ 4 → wApp W t s 0 j = W 0 j := fun j hj => wApp_0 W t s hj
  have er : ∀ i j, i ≠ 0 → i ≠ 1 → i ≠ 3 → i ≠ 8 → i ≠ 9 → wApp W t s i j = W i j := fun i j h0 h1 h3 h8 h9 => wApp_r W t s ⟨h0, h1, h3, h8, h9⟩ j
  have ra := r.a hs
  have hcnt : C (2 + 4 * s) 4 + 1 ≤ W 0 5 := by
    rw [ra.cnt]
    have e := ct_del (p := fun u => 0 < W 8 (5 * u + s) ∨ u = t) (q := fun u => 0 < W 8 (5 * u + s)) (f := t) (Or.inr rfl) (by omega) (W 0 5) ht (fun i _ hne => ⟨fun z => by rcases z with z | z; exact z; exact absurd z hne, Or.inl⟩)
    have := ct_le (fun u => 0 < W 8 (5 * u + s) ∨ u = t) (W 0 5)
    omega
  have rows : ∀ s', s' < 5 → s' ≠ s → (∀ j, C' (2 + 4 * s') j = C (2 + 4 * s') j) ∧ (∀ j, C' (3 + 4 * s') j = C (3 + 4 * s') j) ∧ (∀ j, C' (4 + 4 * s') j = C (4 + 4 * s') j) ∧ ∀ j, C' (5 + 4 * s') j = C (5 + 4 * s') j := fun s' hs' hne =>
    ⟨fun j => co _ _ (by omega) (by omega) (by omega) (by omega) (by omega), fun j => co _ _ (by omega) (by omega) (by omega) (by omega) (by omega), fun j => co _ _ (by omega) (by omega) (by omega) (by omega) (by omega), fun j => co _ _ (by omega) (by omega) (by omega) (by omega) (by omega)⟩
  have k60 : ∀ j, C' 60 j = C 60 j := fun j => co _ _ (by omega) (by omega) (by omega) (by omega) (by omega)
  have k0 : ∀ j, C' 0 j = C 0 j := fun j => co _ _ (by omega) (by omega) (by omega) (by omega) (by omega)
  refine ⟨r.q.mk' (fun a k => ?_) ⟨?_, ?_, ?_, ?_⟩ (fun s' i hs' hi => ?_), ⟨?_, ?_, ?_, ?_⟩, fun s' hs' => ?_, fun s' hs' => ?_, fun u hu => ?_, fun j k hj hk => ?_, ?_⟩
  · by_cases z2 : a = 2 + 4 * s
    · by_cases zk : k = 4
      · refine Or.inr (Or.inr ?_)
        rw [z2, zk, c2]
        have : cb (2 + 4 * s) 4 = 201 := by
          unfold cb; rw [if_neg (by omega), if_pos (by omega), if_pos (by omega)]; rfl
        rw [this]; omega
      · rw [z2]; exact Or.inl (c20 k zk)
    · by_cases z3 : a = 3 + 4 * s
      · refine Or.inr (Or.inr ?_)
        rw [z3, cb_s1 s k hs, c3]
        have := cbS1 r.q hs k
        split
        · rename_i e; rw [e]; exact hv
        · exact this
      · by_cases z4 : a = 4 + 4 * s
        · refine Or.inr (Or.inr ?_)
          rw [z4, cb_s2 s k hs, c4]
          have := cbS2 r.q hs k
          split <;> omega
        · by_cases z5 : a = 5 + 4 * s
          · rw [z5, c5]
            by_cases e : k = C (2 + 4 * s) 4
            · refine Or.inr (Or.inr ?_)
              rw [if_pos e]
              have : cb (5 + 4 * s) k = 200 := by
                unfold cb; rw [if_neg (by omega), if_pos (by omega), if_neg (by omega), if_neg (by omega), if_neg (by omega), if_neg (by omega)]
              rw [this]; omega
            · exact Or.inl (if_neg e)
          · by_cases zt : a = 100 + 5 * t
            · rw [zt]
              by_cases k12 : k = 12
              · refine Or.inr (Or.inr ?_)
                rw [k12, c12, cb_t t _ (by omega)]
                exact ((r.t ht).2.2.2.2.2.2.1.or (Bt.one hs)).1
              · by_cases k13 : k = 13
                · refine Or.inr (Or.inr ?_)
                  rw [k13, c13, cb_t t _ (by omega)]
                  exact ((r.t ht).2.2.2.2.2.2.2.1.andn (by omega) (Bt.one hs)).1
                · exact Or.inl (c1 k k12 k13)
            · exact Or.inl (co a k z2 z3 z4 z5 zt)
  · rw [k0]; exact q2.1
  · rw [k0, k60]; exact q2.2.1
  · rw [k60]; exact q2.2.2.1
  · rw [k60]; exact q2.2.2.2
  · rw [k60]
    by_cases e : s' = s
    · subst e
      rw [c2] at hi
      rw [c5]
      by_cases z : i = C (2 + 4 * s') 4
      · rw [if_pos z]; omega
      · rw [if_neg z]; exact r.q.2.2 s' i hs (by omega)
    · obtain ⟨w2, w3, w4, w5⟩ := rows s' hs' e
      rw [w2] at hi
      rw [w5]; exact r.q.2.2 s' i hs' hi
  · rw [k0, e0 _ (by omega)]; exact r.s.1
  · rw [k0, e0 _ (by omega)]; exact r.s.2.1
  · rw [k0, e0 _ (by omega)]; exact r.s.2.2.1
  · rw [k60, e0 _ (by omega)]; exact r.s.2.2.2
  · by_cases e : s' = s
    · subst e
      refine ⟨?_, fun j hj => ?_, fun o ho => ?_⟩
      · rw [c20 _ (by omega), er _ _ (by omega) (by omega) (by omega) (by omega) (by omega)]; exact (r.p hs).1
      · rw [c3, wApp_1, (r.p hs).2.1 j hj]
        by_cases z : j = W 4 t
        · rw [if_pos z, if_pos (by omega)]
        · rw [if_neg z, if_neg (by omega)]
      · rw [c4, wApp_3, (r.p hs).2.2 o ho]
        by_cases z : W 3 (20 * s' + o) = t
        · rw [if_pos ⟨ho, z⟩, if_pos ⟨by omega, by omega, z⟩]
        · rw [if_neg (fun q => z q.2), if_neg (fun q => z q.2.2)]
    · obtain ⟨w2, w3, w4, w5⟩ := rows s' hs' e
      refine (r.p hs').fr (w2 _) (fun j _ => w3 j) (fun j _ => w4 j) (er _ _ (by omega) (by omega) (by omega) (by omega) (by omega)) (fun j hj => ?_) (fun o ho => ?_)
      · rw [wApp_1, if_neg (by omega)]
      · rw [wApp_3, if_neg (by omega)]
  · by_cases e : s' = s
    · subst e
      have hne : ∀ i, i < C (2 + 4 * s') 4 → C (5 + 4 * s') i ≠ t := fun i hi z => by
        have := (ra.1 i hi).2; rw [z, h8] at this; omega
      refine ⟨fun i hi => ?_, fun i j hij hj => ?_, fun f => ?_, fun u hu => ?_⟩
      · rw [c2] at hi
        rw [c5, e0 5 (by omega)]
        by_cases z : i = C (2 + 4 * s') 4
        · rw [if_pos z, wApp_8, if_pos rfl]; omega
        · rw [if_neg z, wApp_8]
          have q := ra.1 i (by omega)
          have q' := hne i (by omega)
          rw [if_neg (by omega)]; exact q
      · rw [c2] at hj
        rw [c5, c5, if_neg (by omega)]
        have q' := hne i (by omega)
        rw [wApp_8, if_neg (by omega), wApp_8]
        by_cases z : j = C (2 + 4 * s') 4
        · rw [if_pos z, if_pos rfl]
          have := ra.2.2.2 _ (ra.1 i (by omega)).1
          omega
        · have q'' := hne j (by omega)
          rw [if_neg z, if_neg (by omega)]
          exact ra.2.1 i j hij (by omega)
      · rw [c2, e0 5 (by omega)]
        show sm (fun i => f (C' (5 + 4 * s') i)) (C (2 + 4 * s') 4) + f (C' (5 + 4 * s') (C (2 + 4 * s') 4)) = _
        rw [c5, if_pos rfl, sm_congr (g := fun i => f (C (5 + 4 * s') i)) _ (fun i hi => by rw [c5, if_neg (by omega)]), ra.2.2.1 f]
        refine (sm_add (t := t) ?_ (W 0 5) ht (fun i hi hne' => ?_)).symm
        · rw [wApp_8, if_pos rfl, if_pos (by omega), h8, if_neg (by omega), Nat.zero_add]
        · rw [wApp_8, if_neg (show ¬ 5 * i + s' = 5 * t + s' by omega)]
      · rw [e0 5 (by omega)] at hu
        rw [wApp_8, wApp_04]
        have := ra.2.2.2 u hu
        split <;> omega
    · obtain ⟨w2, w3, w4, w5⟩ := rows s' hs' e
      have ra' := r.a hs'
      have e8 : ∀ u, wApp W t s 8 (5 * u + s') = W 8 (5 * u + s') := fun u => by rw [wApp_8, if_neg (by omega)]
      unfold RA
      simp only [w2, w5, e8, e0 5 (by omega), wApp_04]
      exact ⟨ra'.1, ra'.2.1, ra'.2.2.1, fun u hu => Nat.le_succ_of_le (ra'.2.2.2 u hu)⟩
  · rw [e0 5 (by omega)] at hu
    by_cases e : u = t
    · subst e
      obtain ⟨⟨a0, a1, a2, a3, a7, a15⟩, a4, ⟨a5, a6⟩, a8, b10, b11, b12, b13, b14⟩ := r.t ht
      refine ⟨⟨?_, ?_, ?_, ?_, ?_, ?_⟩, fun j hj => ?_, ⟨?_, fun o ho hw => ?_⟩, fun j hj => ?_, ?_, ?_, ?_, ?_, ?_⟩
      · rw [c1 _ (by omega) (by omega)]; exact a0
      · rw [c1 _ (by omega) (by omega), er _ _ (by omega) (by omega) (by omega) (by omega) (by omega)]; exact a1
      · rw [c1 _ (by omega) (by omega), er _ _ (by omega) (by omega) (by omega) (by omega) (by omega)]; exact a2
      · rw [c1 _ (by omega) (by omega), er _ _ (by omega) (by omega) (by omega) (by omega) (by omega)]; exact a3
      · rw [c1 _ (by omega) (by omega), er _ _ (by omega) (by omega) (by omega) (by omega) (by omega)]; exact a7
      · rw [c1 _ (by omega) (by omega), er _ _ (by omega) (by omega) (by omega) (by omega) (by omega)]; exact a15
      · rw [co _ _ (by omega) (by omega) (by omega) (by omega) (by omega), er _ _ (by omega) (by omega) (by omega) (by omega) (by omega)]; exact a4 j hj
      · rw [c1 _ (by omega) (by omega)]
        exact a5.congr (fun o ho => by unfold wr; rw [er _ _ (by omega) (by omega) (by omega) (by omega) (by omega)])
      · unfold wr at hw
        rw [er _ _ (by omega) (by omega) (by omega) (by omega) (by omega)] at hw
        rw [co _ _ (by omega) (by omega) (by omega) (by omega) (by omega), er _ _ (by omega) (by omega) (by omega) (by omega) (by omega)]; exact a6 o ho hw
      · rw [er _ _ (by omega) (by omega) (by omega) (by omega) (by omega)] at hj
        rw [co _ _ (by omega) (by omega) (by omega) (by omega) (by omega), er _ _ (by omega) (by omega) (by omega) (by omega) (by omega), co _ _ (by omega) (by omega) (by omega) (by omega) (by omega), er _ _ (by omega) (by omega) (by omega) (by omega) (by omega)]; exact a8 j hj
      · rw [c1 _ (by omega) (by omega)]
        exact b10.congr (fun o ho => by rw [er _ _ (by omega) (by omega) (by omega) (by omega) (by omega)])
      · rw [c1 _ (by omega) (by omega)]
        exact b11.congr (fun o ho => by rw [er _ _ (by omega) (by omega) (by omega) (by omega) (by omega)])
      · rw [c12]
        refine (b12.or (Bt.one hs)).congr (fun j hj => ?_)
        rw [wApp_8]
        by_cases z : j = s
        · rw [if_pos (by omega)]; simp [z]
        · rw [if_neg (by omega)]; simp [z]
      · rw [c13]
        refine (b13.andn (by omega) (Bt.one hs)).congr (fun j hj => ?_)
        rw [wApp_9]
        by_cases z : j = s
        · rw [if_pos (by omega)]; simp [z]
        · rw [if_neg (by omega)]; simp [z]
      · rw [c1 _ (by omega) (by omega)]
        exact b14.congr (fun o ho => by rw [er _ _ (by omega) (by omega) (by omega) (by omega) (by omega)])
    · refine (r.t hu).fr (fun a j h1 h2 => co _ _ (by omega) (by omega) (by omega) (by omega) (by omega)) (fun i hi => er _ _ (by omega) (by omega) (by omega) (by omega) (by omega)) (fun i j hi hj => ?_) (fun i j hi hj => er _ _ (by omega) (by omega) (by omega) (by omega) (by omega)) (r.b17 hu)
      by_cases i8 : i = 8
      · rw [i8, wApp_8, if_neg (by omega)]
      · by_cases i9 : i = 9
        · rw [i9, wApp_9, if_neg (by omega)]
        · exact er _ _ (by omega) (by omega) (by omega) (by omega) (by omega)
  · rw [e0 _ (by omega)] at hj
    rw [co _ _ (by omega) (by omega) (by omega) (by omega) (by omega), er _ _ (by omega) (by omega) (by omega) (by omega) (by omega)]; exact r.l j k hj hk
  · rw [wApp_04, r.z]
    refine (sm_add (t := s) ?_ 5 hs (fun i hi hne => ?_)).symm
    · exact c2
    · exact (rows i hi hne).1 4
end
