/-! The start: the tables read -/
theorem fin_X : tX tFin' = 48 := rfl
theorem fin_S : tS tFin' ≤ 40000 := by decide +kernel
theorem fin_K : ∀ i, i < 48 → tK tFin' i = skd i := by decide +kernel
theorem fin_N : ∀ i, i < 48 → sln i ≠ 0 → tN tFin' i = sln i := by decide +kernel
theorem fin_P : ∀ i, i < 26 → ∀ q, q < 26 → spt i q ≠ 0 → tP tFin' i q = spt i q + 1 ∧ spt i q ≠ 999 := by decide +kernel
theorem fin_E : tP tFin' 22 1 = 1000 ∧ tP tFin' 23 1 = 1000 ∧ tV tFin' 22 2 = 0 ∧ tV tFin' 23 2 = 0 := by decide +kernel
theorem fin_V : ∀ a, a < 25 → ∀ q, q < 25 → a < 22 ∨ a = 24 → tV tFin' a q = vC a q := by decide +kernel
theorem fin_W : ∀ i, i < 22 → ∀ q, q < 25 → tV tFin' (25 + i) q = vW i q := by decide +kernel
