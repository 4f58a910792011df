/-! The start: what the constructors make, in tables -/
abbrev Tb : Type := (Nat → Nat) × (Nat → Nat) × (Nat → Nat → Nat) × (Nat → Nat → Nat) × Nat × Nat
def tK (T : Tb) : Nat → Nat := T.1
def tN (T : Tb) : Nat → Nat := T.2.1
def tP (T : Tb) : Nat → Nat → Nat := T.2.2.1
def tV (T : Tb) : Nat → Nat → Nat := T.2.2.2.1
def tX (T : Tb) : Nat := T.2.2.2.2.1
def tS (T : Tb) : Nat := T.2.2.2.2.2
/-- a cell more; a pointer (0 none, 1000 the shared empty row, else one more than the place); a number; a row's numbers -/
def tA (T : Tb) (κ n z : Nat) : Tb := (fun j => if j = tX T then κ else tK T j, fun j => if j = tX T then n else tN T j, fun j q => if j = tX T then 0 else tP T j q, fun j q => if j = tX T then 0 else tV T j q, tX T + 1, tS T + z)
def tPt (T : Tb) (i k p : Nat) : Tb := (tK T, tN T, fun j q => if j = i ∧ q = k then p else tP T j q, tV T, tX T, tS T)
def tSv (T : Tb) (i k v : Nat) : Tb := (tK T, tN T, tP T, fun j q => if j = i ∧ q = k then v else tV T j q, tX T, tS T)
def tFl (T : Tb) (i lo hi v : Nat) : Tb := (tK T, tN T, tP T, fun j q => if j = i ∧ lo ≤ q ∧ q < hi then v else tV T j q, tX T, tS T)
def pd (x : Cx) (B p : Nat) : Option Nat := if p = 0 then none else if p = 1000 then some (xE x) else some (B + (p - 1))
def Rb (x : Cx) (B S0 : Nat) (T : Tb) (M : Mm) : Prop := mX M = B + tX T ∧ mS M = S0 + tS T ∧ ∀ i, i < tX T → mK M (B + i) = tK T i ∧ mN M (B + i) = tN T i ∧ (∀ k, mP M (B + i) k = pd x B (tP T i k)) ∧ ∀ k, mV M (B + i) k = i32 (tV T i k)
section
variable {x : Cx} {k B S0 : Nat} {T : Tb} {M : Mm}
theorem Rb.a (r : Rb x B S0 T M) (κ n z : Nat) : Rb x B S0 (tA T κ n z) (nO M κ n z) := by
  obtain ⟨h1, h2, h3⟩ := r
  refine ⟨by rw [nO_X, h1]; rfl, by rw [nO_S, h2]; show _ = S0 + (tS T + z); omega, fun i hi => ?_⟩
  have hi' : i < tX T + 1 := hi
  rw [nO_K, nO_N, h1]
  by_cases c : i = tX T
  · subst c
    refine ⟨by rw [if_pos rfl]; show κ = if tX T = tX T then κ else _; rw [if_pos rfl], by rw [if_pos rfl]; show n = if tX T = tX T then n else _; rw [if_pos rfl], fun q => ?_, fun q => ?_⟩
    · rw [nO_P, h1, if_pos rfl]
      show none = pd x B (if tX T = tX T then 0 else _)
      rw [if_pos rfl]; rfl
    · rw [nO_V, h1, if_pos rfl]
      show i32 0 = i32 (if tX T = tX T then 0 else _)
      rw [if_pos rfl]
  · obtain ⟨e1, e2, e3, e4⟩ := h3 i (by omega)
    refine ⟨by rw [if_neg (by omega), e1]; show _ = if i = tX T then _ else _; rw [if_neg c], by rw [if_neg (by omega), e2]; show _ = if i = tX T then _ else _; rw [if_neg c], fun q => ?_, fun q => ?_⟩
    · rw [nO_P, h1, if_neg (by omega), e3]
      show _ = pd x B (if i = tX T then 0 else _)
      rw [if_neg c]
    · rw [nO_V, h1, if_neg (by omega), e4]
      show _ = i32 (if i = tX T then 0 else _)
      rw [if_neg c]
theorem Rb.p (r : Rb x B S0 T M) (i q p : Nat) {v : Option Nat} (hv : v = pd x B p) : Rb x B S0 (tPt T i q p) (sP M (B + i) q v) := by
  obtain ⟨h1, h2, h3⟩ := r
  refine ⟨h1, h2, fun j hj => ?_⟩
  obtain ⟨e1, e2, e3, e4⟩ := h3 j hj
  refine ⟨e1, e2, fun s => ?_, e4⟩
  rw [sP_P]
  show _ = pd x B (if j = i ∧ s = q then p else tP T j s)
  by_cases c : j = i ∧ s = q
  · rw [if_pos (by omega), if_pos c, hv]
  · rw [if_neg (by omega), if_neg c, e3]
theorem Rb.v (r : Rb x B S0 T M) (i q v : Nat) : Rb x B S0 (tSv T i q v) (sV M (B + i) q (i32 v)) := by
  obtain ⟨h1, h2, h3⟩ := r
  refine ⟨h1, h2, fun j hj => ?_⟩
  obtain ⟨e1, e2, e3, e4⟩ := h3 j hj
  refine ⟨e1, e2, e3, fun s => ?_⟩
  rw [sV_V]
  show _ = i32 (if j = i ∧ s = q then v else tV T j s)
  by_cases c : j = i ∧ s = q
  · rw [if_pos (by omega), if_pos c]
  · rw [if_neg (by omega), if_neg c, e4]
theorem Rb.eq (r : Rb x B S0 T M) {T' : Tb} (hX : tX T' = tX T) (hS : tS T' = tS T) (h : ∀ i, i < tX T → tK T' i = tK T i ∧ tN T' i = tN T i ∧ (∀ q, tP T' i q = tP T i q) ∧ ∀ q, tV T' i q = tV T i q) : Rb x B S0 T' M := by
  obtain ⟨h1, h2, h3⟩ := r
  refine ⟨by rw [h1, hX], by rw [h2, hS], fun i hi => ?_⟩
  rw [hX] at hi
  obtain ⟨e1, e2, e3, e4⟩ := h3 i hi
  obtain ⟨g1, g2, g3, g4⟩ := h i hi
  exact ⟨by rw [e1, g1], by rw [e2, g2], fun q => by rw [e3, g3], fun q => by rw [e4, g4]⟩
theorem Rb.kk (r : Rb x B S0 T M) {i : Nat} (hi : i < tX T) : mK M (B + i) = tK T i := (r.2.2 i hi).1
theorem Rb.n (r : Rb x B S0 T M) {i : Nat} (hi : i < tX T) : mN M (B + i) = tN T i := (r.2.2 i hi).2.1
theorem Rb.pp (r : Rb x B S0 T M) {i : Nat} (hi : i < tX T) (q : Nat) {j : Nat} (hj : tP T i q = j + 1) (h9 : j ≠ 999) : mP M (B + i) q = some (B + j) := by
  rw [(r.2.2 i hi).2.2.1 q, hj]
  unfold pd
  rw [if_neg (by omega), if_neg (by omega)]
  rfl
/-- a row filled -/
theorem fl_step (T : Tb) (i lo hi v : Nat) (h : lo < hi) : tFl (tSv T i lo v) i (lo + 1) hi v = tFl T i lo hi v := by
  unfold tFl tSv
  refine congrArg (fun z => (tK T, tN T, tP T, z, tX T, tS T)) ?_
  funext j q
  show (if j = i ∧ lo + 1 ≤ q ∧ q < hi then v else if j = i ∧ q = lo then v else tV T j q) = if j = i ∧ lo ≤ q ∧ q < hi then v else tV T j q
  by_cases c : j = i ∧ lo ≤ q ∧ q < hi
  · rw [if_pos c]
    by_cases z : q = lo
    · rw [if_neg (by omega), if_pos (by omega)]
    · rw [if_pos (by omega)]
  · rw [if_neg c, if_neg (by omega), if_neg (by omega)]
theorem fl_done (T : Tb) (i hi v : Nat) : tFl T i hi hi v = T := by
  unfold tFl
  obtain ⟨a, b, c, d, e, f⟩ := T
  refine congrArg (fun z => (a, b, c, z, e, f)) ?_
  funext j q
  rw [if_neg (by omega)]; rfl
theorem g_clr32 {s : Nat} : ∀ n o T M, Rb x B S0 T M → s + 2 < tX T → tK T s = 3 → tP T s 2 = s + 3 → s + 2 ≠ 999 → tK T (s + 2) = 8 → tN T (s + 2) = 20 → o ≤ 20 → 20 < n + o → ∃ M', fX2_clear_32 x k n (B + s) (i32 o) M = some ((), M') ∧ Rb x B S0 (tFl T (s + 2) o 20 4294967295) M' := by
  intro n
  induction n with
  | zero => intro o T M _ _ _ _ _ _ _ h1 h2; omega
  | succ n ih =>
    intro o T M r hX k3 p2 h9 k8 n20 ho hn
    have e1 : mK M (B + s) = 3 := by rw [r.kk (by omega)]; exact k3
    have e2 : mP M (B + s) 2 = some (B + (s + 2)) := r.pp (by omega) 2 p2 h9
    have e3 : mK M (B + (s + 2)) = 8 := by rw [r.kk hX]; exact k8
    have e4 : mN M (B + (s + 2)) = 20 := by rw [r.n hX]; exact n20
    by_cases c : 20 ≤ o
    · obtain rfl : o = 20 := by omega
      refine ⟨M, ?_, by rw [fl_done]; exact r⟩
      rw [fX2_clear_32, if_pos (by rw [show (20 : Int32) = i32 20 from rfl, i_le (by omega) (by omega)]; omega)]
    · obtain ⟨M', e, r'⟩ := ih (o + 1) _ _ (r.v (s + 2) o 4294967295) hX k3 p2 h9 k8 n20 (by omega) (by omega)
      rw [fl_step _ _ _ _ _ (by omega)] at r'
      refine ⟨M', ?_, r'⟩
      rw [← e, fX2_clear_32, if_neg (by rw [show (20 : Int32) = i32 20 from rfl, i_le (by omega) (by omega)]; exact c), if_pos e1, e2, ob1_s, i_nat (by omega), if_pos ⟨e3, by rw [e4, show (0 : Int32) = i32 0 from rfl]; intro z; rcases z with z | z; exact i_nn (by omega) z; omega⟩, show (-1 : Int32) = i32 4294967295 from i_m1', show (1 : Int32) = i32 1 from rfl, i_add]
theorem g_clr12 (hk : 5000 ≤ k) {s : Nat} : ∀ n o T M, Rb x B S0 T M → s + 2 < tX T → tK T s = 3 → (tP T s 1 = s + 2 ∧ tP T s 2 = s + 3) → s + 2 < 900 → (tK T (s + 1) = 8 ∧ tK T (s + 2) = 8) → (tN T (s + 1) = 5 ∧ tN T (s + 2) = 20) → o ≤ 5 → 5 < n + o → ∃ M', fX2_clear_12 x k n (B + s) (i32 o) M = some ((), M') ∧ Rb x B S0 (tFl (tFl T (s + 1) o 5 0) (s + 2) 0 20 4294967295) M' := by
  intro n
  induction n with
  | zero => intro o T M _ _ _ _ _ _ _ h1 h2; omega
  | succ n ih =>
    intro o T M r hX k3 p2 h9 k8 n20 ho hn
    have e1 : mK M (B + s) = 3 := by rw [r.kk (by omega)]; exact k3
    have e2 : mP M (B + s) 1 = some (B + (s + 1)) := r.pp (by omega) 1 p2.1 (by omega)
    have e3 : mK M (B + (s + 1)) = 8 := by rw [r.kk (by omega)]; exact k8.1
    have e4 : mN M (B + (s + 1)) = 5 := by rw [r.n (by omega)]; exact n20.1
    by_cases c : 5 ≤ o
    · obtain rfl : o = 5 := by omega
      rw [fl_done]
      obtain ⟨M', e, r'⟩ := g_clr32 (k := k) k 0 T M r hX k3 p2.2 (by omega) k8.2 n20.2 (by omega) (by omega)
      refine ⟨M', ?_, r'⟩
      rw [fX2_clear_12, if_pos (by rw [show (5 : Int32) = i32 5 from rfl, i_le (by omega) (by omega)]; omega)]
      exact e
    · obtain ⟨M', e, r'⟩ := ih (o + 1) _ _ (r.v (s + 1) o 0) hX k3 p2 h9 k8 n20 (by omega) (by omega)
      rw [fl_step _ _ _ _ _ (by omega)] at r'
      refine ⟨M', ?_, r'⟩
      rw [← e, fX2_clear_12, if_neg (by rw [show (5 : Int32) = i32 5 from rfl, i_le (by omega) (by omega)]; exact c), if_pos e1, e2, ob1_s, i_nat (by omega), if_pos ⟨e3, by rw [e4, show (0 : Int32) = i32 0 from rfl]; intro z; rcases z with z | z; exact i_nn (by omega) z; omega⟩, show (1 : Int32) = i32 1 from rfl, i_add]
      rfl
def tClr (T : Tb) (s : Nat) : Tb := tFl (tFl (tSv (tSv T s 0 1) s 4 0) (s + 1) 0 5 0) (s + 2) 0 20 4294967295
theorem g_clr (hk : 5000 ≤ k) {s : Nat} (r : Rb x B S0 T M) (hX : s + 2 < tX T) (k3 : tK T s = 3) (p2 : tP T s 1 = s + 2 ∧ tP T s 2 = s + 3) (h9 : s + 2 < 900) (k8 : tK T (s + 1) = 8 ∧ tK T (s + 2) = 8) (n20 : tN T (s + 1) = 5 ∧ tN T (s + 2) = 20) : ∃ M', fX2_clear x k (B + s) M = some ((), M') ∧ Rb x B S0 (tClr T s) M' := by
  obtain ⟨M', e, r'⟩ := g_clr12 (k := k) hk k 0 _ _ ((r.v s 0 1).v s 4 0) hX k3 p2 h9 k8 n20 (by omega) (by omega)
  refine ⟨M', ?_, r'⟩
  have e1 : mK M (B + s) = 3 := by rw [r.kk (by omega)]; exact k3
  rw [← e]
  unfold fX2_clear
  rw [if_pos ⟨e1, Or.inr rfl⟩, if_pos (show mK (sV M (B + s) 0 1) (B + s) = 3 from e1)]
  rfl
/-- the reference's rows at the beginning -/
theorem g_bg68 {s r3 : Nat} : ∀ n o T M, Rb x B S0 T M → s < tX T → r3 < tX T → tK T s = 6 → tP T s 3 = r3 + 1 → r3 ≠ 999 → tK T r3 = 8 → tN T r3 = 100 → o ≤ 100 → 100 < n + o → ∃ M', fX5_begins_68 x k n (B + s) (i32 o) M = some ((), M') ∧ Rb x B S0 (tFl T r3 o 100 4294967295) M' := by
  intro n
  induction n with
  | zero => intro o T M _ _ _ _ _ _ _ _ h1 h2; omega
  | succ n ih =>
    intro o T M r hX hR k3 p2 h9 k8 n20 ho hn
    have e1 : mK M (B + s) = 6 := by rw [r.kk (by omega)]; exact k3
    have e2 : mP M (B + s) 3 = some (B + r3) := r.pp (by omega) 3 p2 h9
    have e3 : mK M (B + r3) = 8 := by rw [r.kk hR]; exact k8
    have e4 : mN M (B + r3) = 100 := by rw [r.n hR]; exact n20
    by_cases c : 100 ≤ o
    · obtain rfl : o = 100 := by omega
      refine ⟨M, ?_, by rw [fl_done]; exact r⟩
      rw [fX5_begins_68, if_pos (by rw [show (100 : Int32) = i32 100 from rfl, i_le (by omega) (by omega)]; omega)]
    · obtain ⟨M', e, r'⟩ := ih (o + 1) _ _ (r.v r3 o 4294967295) hX hR k3 p2 h9 k8 n20 (by omega) (by omega)
      rw [fl_step _ _ _ _ _ (by omega)] at r'
      refine ⟨M', ?_, r'⟩
      rw [← e, fX5_begins_68, if_neg (by rw [show (100 : Int32) = i32 100 from rfl, i_le (by omega) (by omega)]; exact c), if_pos e1, e2, ob1_s, i_nat (by omega), if_pos ⟨e3, by rw [e4, show (0 : Int32) = i32 0 from rfl]; intro z; rcases z with z | z; exact i_nn (by omega) z; omega⟩, show (-1 : Int32) = i32 4294967295 from i_m1', show (1 : Int32) = i32 1 from rfl, i_add]
theorem g_bg48 (hk : 5000 ≤ k) {s r2 r3 : Nat} : ∀ n o T M, Rb x B S0 T M → (s < tX T ∧ r2 < tX T ∧ r3 < tX T) → tK T s = 6 → (tP T s 2 = r2 + 1 ∧ tP T s 3 = r3 + 1) → (r2 < 900 ∧ r3 < 900) → (tK T r2 = 9 ∧ tK T r3 = 8) → (tN T r2 = 5 ∧ tN T r3 = 100) → o ≤ 5 → 5 < n + o → ∃ M', fX5_begins_48 x k n (B + s) (i32 o) M = some ((), M') ∧ Rb x B S0 (tFl (tFl T r2 o 5 0) r3 0 100 4294967295) M' := by
  intro n
  induction n with
  | zero => intro o T M _ _ _ _ _ _ _ h1 h2; omega
  | succ n ih =>
    intro o T M r hX k3 p2 h9 k8 n20 ho hn
    have e1 : mK M (B + s) = 6 := by rw [r.kk (by omega)]; exact k3
    have e2 : mP M (B + s) 2 = some (B + r2) := r.pp (by omega) 2 p2.1 (by omega)
    have e3 : mK M (B + r2) = 9 := by rw [r.kk (by omega)]; exact k8.1
    have e4 : mN M (B + r2) = 5 := by rw [r.n (by omega)]; exact n20.1
    by_cases c : 5 ≤ o
    · obtain rfl : o = 5 := by omega
      rw [fl_done]
      obtain ⟨M', e, r'⟩ := g_bg68 (k := k) k 0 T M r hX.1 hX.2.2 k3 p2.2 (by omega) k8.2 n20.2 (by omega) (by omega)
      refine ⟨M', ?_, r'⟩
      rw [fX5_begins_48, if_pos (by rw [show (5 : Int32) = i32 5 from rfl, i_le (by omega) (by omega)]; omega)]
      exact e
    · obtain ⟨M', e, r'⟩ := ih (o + 1) _ _ (r.v r2 o 0) hX k3 p2 h9 k8 n20 (by omega) (by omega)
      rw [fl_step _ _ _ _ _ (by omega)] at r'
      refine ⟨M', ?_, r'⟩
      rw [← e, fX5_begins_48, if_neg (by rw [show (5 : Int32) = i32 5 from rfl, i_le (by omega) (by omega)]; exact c), if_pos e1, e2, ob1_s, i_nat (by omega), if_pos ⟨e3, by rw [e4, show (0 : Int32) = i32 0 from rfl]; intro z; rcases z with z | z; exact i_nn (by omega) z; omega⟩, show vp_nar .boolean (0 : Int32) = i32 0 from nar0, show (1 : Int32) = i32 1 from rfl, i_add]
theorem g_bg27 (hk : 5000 ≤ k) {s r1 r2 r3 : Nat} : ∀ n o T M, Rb x B S0 T M → (s < tX T ∧ r1 < tX T ∧ r2 < tX T ∧ r3 < tX T) → tK T s = 6 → (tP T s 1 = r1 + 1 ∧ tP T s 2 = r2 + 1 ∧ tP T s 3 = r3 + 1) → (r1 < 900 ∧ r2 < 900 ∧ r3 < 900) → (tK T r1 = 8 ∧ tK T r2 = 9 ∧ tK T r3 = 8) → (tN T r1 = 25 ∧ tN T r2 = 5 ∧ tN T r3 = 100) → o ≤ 25 → 25 < n + o → ∃ M', fX5_begins_27 x k n (B + s) (i32 o) M = some ((), M') ∧ Rb x B S0 (tFl (tFl (tFl T r1 o 25 0) r2 0 5 0) r3 0 100 4294967295) M' := by
  intro n
  induction n with
  | zero => intro o T M _ _ _ _ _ _ _ h1 h2; omega
  | succ n ih =>
    intro o T M r hX k3 p2 h9 k8 n20 ho hn
    have e1 : mK M (B + s) = 6 := by rw [r.kk (by omega)]; exact k3
    have e2 : mP M (B + s) 1 = some (B + r1) := r.pp (by omega) 1 p2.1 (by omega)
    have e3 : mK M (B + r1) = 8 := by rw [r.kk (by omega)]; exact k8.1
    have e4 : mN M (B + r1) = 25 := by rw [r.n (by omega)]; exact n20.1
    by_cases c : 25 ≤ o
    · obtain rfl : o = 25 := by omega
      rw [fl_done]
      obtain ⟨M', e, r'⟩ := g_bg48 (k := k) hk k 0 T M r ⟨hX.1, hX.2.2⟩ k3 p2.2 ⟨by omega, by omega⟩ k8.2 n20.2 (by omega) (by omega)
      refine ⟨M', ?_, r'⟩
      rw [fX5_begins_27, if_pos (by rw [show (25 : Int32) = i32 25 from rfl, i_le (by omega) (by omega)]; omega)]
      exact e
    · obtain ⟨M', e, r'⟩ := ih (o + 1) _ _ (r.v r1 o 0) hX k3 p2 h9 k8 n20 (by omega) (by omega)
      rw [fl_step _ _ _ _ _ (by omega)] at r'
      refine ⟨M', ?_, r'⟩
      rw [← e, fX5_begins_27, if_neg (by rw [show (25 : Int32) = i32 25 from rfl, i_le (by omega) (by omega)]; exact c), if_pos e1, e2, ob1_s, i_nat (by omega), if_pos ⟨e3, by rw [e4, show (0 : Int32) = i32 0 from rfl]; intro z; rcases z with z | z; exact i_nn (by omega) z; omega⟩, show (1 : Int32) = i32 1 from rfl, i_add]
      rfl
end
