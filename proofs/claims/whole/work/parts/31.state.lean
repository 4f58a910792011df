/-! THE STATE: a memory holds the class's numbers C and the reference's numbers W. Cells lie at fixed places behind B: 0 the object, 1 its row of sites, 2+4s a site and behind it its counts, holders, applied; 22 and 23 the lists, 24 the finder, 25 the reference, 26..46 its rows, 47 the answer. Transactions and letters lie where rows 70 and 71 of C say; C 60: sizes of the lists; C 72: the lists' arrays and their lengths; C 73: cells and slots made -/
abbrev Ab : Type := Nat → Nat → Nat
def U (A : Ab) (a k v : Nat) : Ab := fun b j => if b = a ∧ j = k then v else A b j
theorem U_s (A : Ab) (a k v : Nat) : U A a k v a k = v := by simp [U]
theorem U_r (A : Ab) {a b : Nat} (h : b ≠ a) (k v j : Nat) : U A a k v b j = A b j := by simp [U, h]
theorem U_k (A : Ab) (a b : Nat) {k j : Nat} (h : j ≠ k) (v : Nat) : U A a k v b j = A b j := by simp [U, h]
def skd : Nat → Nat
  | 0 => 5
  | 1 => 10
  | 2 => 3
  | 3 => 8
  | 4 => 8
  | 5 => 8
  | 6 => 3
  | 7 => 8
  | 8 => 8
  | 9 => 8
  | 10 => 3
  | 11 => 8
  | 12 => 8
  | 13 => 8
  | 14 => 3
  | 15 => 8
  | 16 => 8
  | 17 => 8
  | 18 => 3
  | 19 => 8
  | 20 => 8
  | 21 => 8
  | 22 => 7
  | 23 => 7
  | 24 => 1
  | 25 => 6
  | 26 => 8
  | 27 => 9
  | 28 => 8
  | 29 => 8
  | 30 => 8
  | 31 => 8
  | 32 => 8
  | 33 => 8
  | 34 => 9
  | 35 => 9
  | 36 => 9
  | 37 => 9
  | 38 => 9
  | 39 => 8
  | 40 => 8
  | 41 => 8
  | 42 => 8
  | 43 => 9
  | 44 => 9
  | 45 => 8
  | 46 => 8
  | 47 => 12
  | _ => 0
def sln : Nat → Nat
  | 1 => 5
  | 3 => 5
  | 4 => 20
  | 5 => 200
  | 7 => 5
  | 8 => 20
  | 9 => 200
  | 11 => 5
  | 12 => 20
  | 13 => 200
  | 15 => 5
  | 16 => 20
  | 17 => 200
  | 19 => 5
  | 20 => 20
  | 21 => 200
  | 26 => 25
  | 27 => 5
  | 28 => 100
  | 29 => 200
  | 30 => 200
  | 31 => 200
  | 32 => 1000
  | 33 => 1000
  | 34 => 1000
  | 35 => 1000
  | 36 => 1000
  | 37 => 1000
  | 38 => 4000
  | 39 => 4000
  | 40 => 4000
  | 41 => 4000
  | 42 => 200
  | 43 => 200
  | 44 => 200
  | 45 => 1200
  | 46 => 300
  | 47 => 1
  | _ => 0
def spt : Nat → Nat → Nat
  | 0, 0 => 1
  | 0, 1 => 22
  | 0, 2 => 23
  | 0, 3 => 24
  | 1, 0 => 2
  | 1, 1 => 6
  | 1, 2 => 10
  | 1, 3 => 14
  | 1, 4 => 18
  | 2, 1 => 3
  | 2, 2 => 4
  | 2, 3 => 5
  | 6, 1 => 7
  | 6, 2 => 8
  | 6, 3 => 9
  | 10, 1 => 11
  | 10, 2 => 12
  | 10, 3 => 13
  | 14, 1 => 15
  | 14, 2 => 16
  | 14, 3 => 17
  | 18, 1 => 19
  | 18, 2 => 20
  | 18, 3 => 21
  | 25, 1 => 26
  | 25, 2 => 27
  | 25, 3 => 28
  | 25, 6 => 29
  | 25, 7 => 30
  | 25, 8 => 31
  | 25, 9 => 32
  | 25, 10 => 33
  | 25, 11 => 34
  | 25, 12 => 35
  | 25, 13 => 36
  | 25, 14 => 37
  | 25, 15 => 38
  | 25, 16 => 39
  | 25, 17 => 40
  | 25, 18 => 41
  | 25, 19 => 42
  | 25, 20 => 43
  | 25, 21 => 44
  | 25, 22 => 45
  | 25, 25 => 46
  | _, _ => 0
/-- shapes of the fixed cells -/
def StK (B : Nat) (M : Mm) : Prop := (∀ i, i < 48 → mK M (B + i) = skd i) ∧ (∀ i, i < 48 → sln i ≠ 0 → mN M (B + i) = sln i) ∧ (∀ i k, spt i k ≠ 0 → mP M (B + i) k = some (B + spt i k))
/-- a transaction's cells -/
def T5 (B : Nat) (M : Mm) (a : Nat) : Prop := (B + 48 ≤ a ∧ a + 5 ≤ mX M) ∧ mK M a = 4 ∧ (mP M a 4 = some (a + 1) ∧ mP M a 6 = some (a + 2) ∧ mP M a 8 = some (a + 3) ∧ mP M a 9 = some (a + 4)) ∧ (mK M (a + 1) = 8 ∧ mK M (a + 2) = 8 ∧ mK M (a + 3) = 8 ∧ mK M (a + 4) = 8) ∧ (mN M (a + 1) = 5 ∧ mN M (a + 2) = 20 ∧ mN M (a + 3) = 20 ∧ mN M (a + 4) = 20)
def StT (B : Nat) (C : Ab) (M : Mm) : Prop := C 60 0 ≤ 200 ∧ (∀ i, i < C 60 0 → T5 B M (C 70 i)) ∧ ∀ i j, i < j → j < C 60 0 → C 70 i + 5 ≤ C 70 j
/-- a list: its object's address, its array, its length, its size, what it holds -/
def Ls (x : Cx) (B : Nat) (M : Mm) (hd d cap n : Nat) (f : Nat → Nat) (κ : Nat) : Prop := mP M hd 1 = some d ∧ mV M hd 2 = i32 n ∧ (n ≤ cap ∧ cap ≤ 600) ∧ ((d = xE x ∧ cap = 0) ∨ (d ≠ xE x ∧ B + 48 ≤ d ∧ d < mX M ∧ mK M d = 11 ∧ mN M d = cap)) ∧ ∀ j, j < n → mP M d j = some (f j) ∧ mK M (f j) = κ ∧ B + 48 ≤ f j ∧ f j < mX M
/-- its numbers -/
def StV (B : Nat) (C W : Ab) (M : Mm) : Prop := (∀ a k, a < 22 ∨ a = 24 → mV M (B + a) k = i32 (C a k)) ∧ (∀ i d k, i < C 60 0 → d < 5 → mV M (C 70 i + d) k = i32 (C (100 + 5 * i + d) k)) ∧ (∀ j k, j < C 60 1 → mV M (C 71 j) k = i32 (C (2000 + j) k)) ∧ (∀ i k, i < 22 → mV M (B + 25 + i) k = i32 (W i k)) ∧ mJ M (B + 47) 0 = (i32 (C 74 0)).toInt64
def St (x : Cx) (B : Nat) (C W : Ab) (M : Mm) : Prop := (xE x < B ∧ B + 48 ≤ mX M ∧ mX M = C 73 0 ∧ mS M = C 73 1) ∧ StK B M ∧ StT B C M ∧ Ls x B M (B + 22) (C 72 0) (C 72 1) (C 60 0) (C 70) 4 ∧ Ls x B M (B + 23) (C 72 2) (C 72 3) (C 60 1) (C 71) 2 ∧ (C 72 0 = C 72 2 → C 72 0 = xE x) ∧ StV B C W M
theorem sV_K (M : Mm) (a k : Nat) (v : Int32) : mK (sV M a k v) = mK M := rfl
theorem sV_P (M : Mm) (a k : Nat) (v : Int32) : mP (sV M a k v) = mP M := rfl
theorem sV_N (M : Mm) (a k : Nat) (v : Int32) : mN (sV M a k v) = mN M := rfl
theorem sV_X (M : Mm) (a k : Nat) (v : Int32) : mX (sV M a k v) = mX M := rfl
theorem sV_S (M : Mm) (a k : Nat) (v : Int32) : mS (sV M a k v) = mS M := rfl
theorem sV_V (M : Mm) (a k : Nat) (v : Int32) (b j : Nat) : mV (sV M a k v) b j = if b = a ∧ j = k then v else mV M b j := by
  by_cases h : b = a
  · subst h
    by_cases hj : j = k
    · subst hj; simp [sV, mV, va_up]
    · simp [sV, mV, va_up, hj]
  · simp [sV, mV, va_up, h]
theorem sV_Vn (M : Mm) (a k : Nat) (v : Int32) {b : Nat} (j : Nat) (h : b ≠ a) : mV (sV M a k v) b j = mV M b j := by rw [sV_V, if_neg (fun z => h z.1)]
theorem ob1_s {α β : Type} (a : α) (g : α → Option β) : ob1 (some a) g = g a := rfl
theorem ob2_s {α β : Type} (a : α) (M : Mm) (g : α → Mm → Option β) : ob2 (some (a, M)) g = g a M := rfl
theorem lt1_s {β : Type} (M : Mm) (g : Mm → Option β) : lt1 M g = g M := rfl
theorem obT_s {α β : Type} (a : α) (M : Mm) (g : α → Mm → Option ((Nat ⊕ β) × Mm)) : obT (some (.inr a, M)) g = g a M := rfl
theorem obT_x {α β : Type} (c : Nat) (M : Mm) (g : α → Mm → Option ((Nat ⊕ β) × Mm)) : obT (some (.inl c, M)) g = some (.inl c, M) := rfl
theorem nar0 : vp_nar .boolean (i32 0) = i32 0 := by rfl
theorem nar1 : vp_nar .boolean (i32 1) = i32 1 := by rfl
section St
variable {x : Cx} {B : Nat} {C W : Ab} {M : Mm}
theorem st_k (h : St x B C W M) (i : Nat) (hi : i < 48) : mK M (B + i) = skd i := h.2.1.1 i hi
theorem st_n (h : St x B C W M) (i : Nat) (hi : i < 48) (hl : sln i ≠ 0) : mN M (B + i) = sln i := h.2.1.2.1 i hi hl
theorem st_p (h : St x B C W M) (i k : Nat) (hl : spt i k ≠ 0) : mP M (B + i) k = some (B + spt i k) := h.2.1.2.2 i k hl
theorem st_v (h : St x B C W M) (a k : Nat) (ha : a < 22 ∨ a = 24) : mV M (B + a) k = i32 (C a k) := h.2.2.2.2.2.2.1 a k ha
theorem st_t (h : St x B C W M) (i d k : Nat) (hi : i < C 60 0) (hd : d < 5) : mV M (C 70 i + d) k = i32 (C (100 + 5 * i + d) k) := h.2.2.2.2.2.2.2.1 i d k hi hd
theorem st_l (h : St x B C W M) (j k : Nat) (hj : j < C 60 1) : mV M (C 71 j) k = i32 (C (2000 + j) k) := h.2.2.2.2.2.2.2.2.1 j k hj
theorem st_w (h : St x B C W M) (i : Nat) (hi : i < 22) (k : Nat) : mV M (B + 25 + i) k = i32 (W i k) := h.2.2.2.2.2.2.2.2.2.1 i k hi
theorem st_T5 (h : St x B C W M) {i : Nat} (hi : i < C 60 0) : T5 B M (C 70 i) := h.2.2.1.2.1 i hi
theorem st_T200 (h : St x B C W M) : C 60 0 ≤ 200 := h.2.2.1.1
theorem st_L (h : St x B C W M) {j : Nat} (hj : j < C 60 1) : mP M (C 72 2) j = some (C 71 j) ∧ mK M (C 71 j) = 2 ∧ B + 48 ≤ C 71 j ∧ C 71 j < mX M := h.2.2.2.2.1.2.2.2.2 j hj
theorem mkM (h : St x B C W M) : mK M (B + 25) = 6 := st_k h 25 (by decide)
theorem kB (h : St x B C W M) : mK M B = 5 := st_k h 0 (by decide)
theorem p_s (h : St x B C W M) : mP M B 0 = some (B + 1) := st_p h 0 0 (by decide)
theorem p_t (h : St x B C W M) : mP M B 1 = some (B + 22) := st_p h 0 1 (by decide)
theorem p_l (h : St x B C W M) : mP M B 2 = some (B + 23) := st_p h 0 2 (by decide)
theorem p_f (h : St x B C W M) : mP M B 3 = some (B + 24) := st_p h 0 3 (by decide)
theorem k_s (h : St x B C W M) : mK M (B + 1) = 10 := st_k h 1 (by decide)
theorem n_s (h : St x B C W M) : mN M (B + 1) = 5 := st_n h 1 (by decide) (by decide)
theorem kT0 (h : St x B C W M) : mK M (B + 22) = 7 := st_k h 22 (by decide)
theorem kL0 (h : St x B C W M) : mK M (B + 23) = 7 := st_k h 23 (by decide)
theorem kF (h : St x B C W M) : mK M (B + 24) = 1 := st_k h 24 (by decide)
theorem five {P : Nat → Prop} (h0 : P 0) (h1 : P 1) (h2 : P 2) (h3 : P 3) (h4 : P 4) {s : Nat} (hs : s < 5) : P s := by
  rcases (show s = 0 ∨ s = 1 ∨ s = 2 ∨ s = 3 ∨ s = 4 by omega) with rfl | rfl | rfl | rfl | rfl <;> assumption
/-- a site's address -/
def sA (B s : Nat) : Nat := B + 2 + 4 * s
theorem pS (h : St x B C W M) {s : Nat} (hs : s < 5) : mP M (B + 1) s = some (sA B s) := five (P := fun s => mP M (B + 1) s = some (sA B s)) (st_p h 1 0 (by decide)) (st_p h 1 1 (by decide)) (st_p h 1 2 (by decide)) (st_p h 1 3 (by decide)) (st_p h 1 4 (by decide)) hs
theorem kS (h : St x B C W M) {s : Nat} (hs : s < 5) : mK M (sA B s) = 3 := five (P := fun s => mK M (sA B s) = 3) (st_k h 2 (by decide)) (st_k h 6 (by decide)) (st_k h 10 (by decide)) (st_k h 14 (by decide)) (st_k h 18 (by decide)) hs
theorem pS1 (h : St x B C W M) {s : Nat} (hs : s < 5) : mP M (sA B s) 1 = some (sA B s + 1) := five (P := fun s => mP M (sA B s) 1 = some (sA B s + 1)) (st_p h 2 1 (by decide)) (st_p h 6 1 (by decide)) (st_p h 10 1 (by decide)) (st_p h 14 1 (by decide)) (st_p h 18 1 (by decide)) hs
theorem pS2 (h : St x B C W M) {s : Nat} (hs : s < 5) : mP M (sA B s) 2 = some (sA B s + 2) := five (P := fun s => mP M (sA B s) 2 = some (sA B s + 2)) (st_p h 2 2 (by decide)) (st_p h 6 2 (by decide)) (st_p h 10 2 (by decide)) (st_p h 14 2 (by decide)) (st_p h 18 2 (by decide)) hs
theorem pS3 (h : St x B C W M) {s : Nat} (hs : s < 5) : mP M (sA B s) 3 = some (sA B s + 3) := five (P := fun s => mP M (sA B s) 3 = some (sA B s + 3)) (st_p h 2 3 (by decide)) (st_p h 6 3 (by decide)) (st_p h 10 3 (by decide)) (st_p h 14 3 (by decide)) (st_p h 18 3 (by decide)) hs
theorem kS1 (h : St x B C W M) {s : Nat} (hs : s < 5) : mK M (sA B s + 1) = 8 := five (P := fun s => mK M (sA B s + 1) = 8) (st_k h 3 (by decide)) (st_k h 7 (by decide)) (st_k h 11 (by decide)) (st_k h 15 (by decide)) (st_k h 19 (by decide)) hs
theorem kS2 (h : St x B C W M) {s : Nat} (hs : s < 5) : mK M (sA B s + 2) = 8 := five (P := fun s => mK M (sA B s + 2) = 8) (st_k h 4 (by decide)) (st_k h 8 (by decide)) (st_k h 12 (by decide)) (st_k h 16 (by decide)) (st_k h 20 (by decide)) hs
theorem kS3 (h : St x B C W M) {s : Nat} (hs : s < 5) : mK M (sA B s + 3) = 8 := five (P := fun s => mK M (sA B s + 3) = 8) (st_k h 5 (by decide)) (st_k h 9 (by decide)) (st_k h 13 (by decide)) (st_k h 17 (by decide)) (st_k h 21 (by decide)) hs
theorem nS1 (h : St x B C W M) {s : Nat} (hs : s < 5) : mN M (sA B s + 1) = 5 := five (P := fun s => mN M (sA B s + 1) = 5) (st_n h 3 (by decide) (by decide)) (st_n h 7 (by decide) (by decide)) (st_n h 11 (by decide) (by decide)) (st_n h 15 (by decide) (by decide)) (st_n h 19 (by decide) (by decide)) hs
theorem nS2 (h : St x B C W M) {s : Nat} (hs : s < 5) : mN M (sA B s + 2) = 20 := five (P := fun s => mN M (sA B s + 2) = 20) (st_n h 4 (by decide) (by decide)) (st_n h 8 (by decide) (by decide)) (st_n h 12 (by decide) (by decide)) (st_n h 16 (by decide) (by decide)) (st_n h 20 (by decide) (by decide)) hs
theorem nS3 (h : St x B C W M) {s : Nat} (hs : s < 5) : mN M (sA B s + 3) = 200 := five (P := fun s => mN M (sA B s + 3) = 200) (st_n h 5 (by decide) (by decide)) (st_n h 9 (by decide) (by decide)) (st_n h 13 (by decide) (by decide)) (st_n h 17 (by decide) (by decide)) (st_n h 21 (by decide) (by decide)) hs
theorem cv0 (h : St x B C W M) (k : Nat) : mV M B k = i32 (C 0 k) := st_v h 0 k (by omega)
theorem cvF (h : St x B C W M) (k : Nat) : mV M (B + 24) k = i32 (C 24 k) := st_v h 24 k (by omega)
theorem cvS (h : St x B C W M) {s : Nat} (hs : s < 5) (k : Nat) : mV M (sA B s) k = i32 (C (2 + 4 * s) k) := by
  have := st_v h (2 + 4 * s) k (by omega); rw [← Nat.add_assoc] at this; exact this
theorem cvS1 (h : St x B C W M) {s : Nat} (hs : s < 5) (k : Nat) : mV M (sA B s + 1) k = i32 (C (3 + 4 * s) k) := by
  have := st_v h (3 + 4 * s) k (by omega); rw [show B + (3 + 4 * s) = sA B s + 1 by unfold sA; omega] at this; exact this
theorem cvS2 (h : St x B C W M) {s : Nat} (hs : s < 5) (k : Nat) : mV M (sA B s + 2) k = i32 (C (4 + 4 * s) k) := by
  have := st_v h (4 + 4 * s) k (by omega); rw [show B + (4 + 4 * s) = sA B s + 2 by unfold sA; omega] at this; exact this
theorem cvS3 (h : St x B C W M) {s : Nat} (hs : s < 5) (k : Nat) : mV M (sA B s + 3) k = i32 (C (5 + 4 * s) k) := by
  have := st_v h (5 + 4 * s) k (by omega); rw [show B + (5 + 4 * s) = sA B s + 3 by unfold sA; omega] at this; exact this
theorem kT (h : St x B C W M) {i : Nat} (hi : i < C 60 0) : mK M (C 70 i) = 4 := (st_T5 h hi).2.1
theorem pT4 (h : St x B C W M) {i : Nat} (hi : i < C 60 0) : mP M (C 70 i) 4 = some (C 70 i + 1) := (st_T5 h hi).2.2.1.1
theorem pT6 (h : St x B C W M) {i : Nat} (hi : i < C 60 0) : mP M (C 70 i) 6 = some (C 70 i + 2) := (st_T5 h hi).2.2.1.2.1
theorem pT8 (h : St x B C W M) {i : Nat} (hi : i < C 60 0) : mP M (C 70 i) 8 = some (C 70 i + 3) := (st_T5 h hi).2.2.1.2.2.1
theorem pT9 (h : St x B C W M) {i : Nat} (hi : i < C 60 0) : mP M (C 70 i) 9 = some (C 70 i + 4) := (st_T5 h hi).2.2.1.2.2.2
theorem kT1 (h : St x B C W M) {i : Nat} (hi : i < C 60 0) : mK M (C 70 i + 1) = 8 := (st_T5 h hi).2.2.2.1.1
theorem kT2 (h : St x B C W M) {i : Nat} (hi : i < C 60 0) : mK M (C 70 i + 2) = 8 := (st_T5 h hi).2.2.2.1.2.1
theorem kT3 (h : St x B C W M) {i : Nat} (hi : i < C 60 0) : mK M (C 70 i + 3) = 8 := (st_T5 h hi).2.2.2.1.2.2.1
theorem kT4 (h : St x B C W M) {i : Nat} (hi : i < C 60 0) : mK M (C 70 i + 4) = 8 := (st_T5 h hi).2.2.2.1.2.2.2
theorem nT1 (h : St x B C W M) {i : Nat} (hi : i < C 60 0) : mN M (C 70 i + 1) = 5 := (st_T5 h hi).2.2.2.2.1
theorem nT2 (h : St x B C W M) {i : Nat} (hi : i < C 60 0) : mN M (C 70 i + 2) = 20 := (st_T5 h hi).2.2.2.2.2.1
theorem nT3 (h : St x B C W M) {i : Nat} (hi : i < C 60 0) : mN M (C 70 i + 3) = 20 := (st_T5 h hi).2.2.2.2.2.2.1
theorem nT4 (h : St x B C W M) {i : Nat} (hi : i < C 60 0) : mN M (C 70 i + 4) = 20 := (st_T5 h hi).2.2.2.2.2.2.2
theorem cvT (h : St x B C W M) {i : Nat} (hi : i < C 60 0) (k : Nat) : mV M (C 70 i) k = i32 (C (100 + 5 * i) k) := st_t h i 0 k hi (by omega)
theorem cvT1 (h : St x B C W M) {i : Nat} (hi : i < C 60 0) (k : Nat) : mV M (C 70 i + 1) k = i32 (C (101 + 5 * i) k) := by
  have := st_t h i 1 k hi (by omega); rw [show 100 + 5 * i + 1 = 101 + 5 * i by omega] at this; exact this
theorem cvT2 (h : St x B C W M) {i : Nat} (hi : i < C 60 0) (k : Nat) : mV M (C 70 i + 2) k = i32 (C (102 + 5 * i) k) := by
  have := st_t h i 2 k hi (by omega); rw [show 100 + 5 * i + 2 = 102 + 5 * i by omega] at this; exact this
theorem cvT3 (h : St x B C W M) {i : Nat} (hi : i < C 60 0) (k : Nat) : mV M (C 70 i + 3) k = i32 (C (103 + 5 * i) k) := by
  have := st_t h i 3 k hi (by omega); rw [show 100 + 5 * i + 3 = 103 + 5 * i by omega] at this; exact this
theorem cvT4 (h : St x B C W M) {i : Nat} (hi : i < C 60 0) (k : Nat) : mV M (C 70 i + 4) k = i32 (C (104 + 5 * i) k) := by
  have := st_t h i 4 k hi (by omega); rw [show 100 + 5 * i + 4 = 104 + 5 * i by omega] at this; exact this
/-- a store into the reference -/
theorem st_suw (h : St x B C W M) {i : Nat} (hi : i < 22) (k v : Nat) : St x B C (U W i k v) (sV M (B + 25 + i) k (i32 v)) := by
  obtain ⟨h1, h2, h3, ⟨l1, l2, l3⟩, ⟨m1, m2, m3⟩, h6, v1, v2, v3, v4, v5⟩ := h
  refine ⟨h1, h2, h3, ⟨l1, ?_, l3⟩, ⟨m1, ?_, m3⟩, h6, ?_, ?_, ?_, ?_, v5⟩
  · rw [sV_Vn _ _ _ _ _ (by omega)]; exact l2
  · rw [sV_Vn _ _ _ _ _ (by omega)]; exact m2
  · intro a k' ha; rw [sV_Vn _ _ _ _ _ (by omega)]; exact v1 a k' ha
  · intro j d k' hj hd
    have := (h3.2.1 j hj).1.1
    rw [sV_Vn _ _ _ _ _ (by omega)]; exact v2 j d k' hj hd
  · intro j k' hj
    have := (m3.2.2 j hj).2.2.1
    rw [sV_Vn _ _ _ _ _ (by omega)]; exact v3 j k' hj
  · intro j k' hj
    rw [sV_V]
    by_cases hc : j = i ∧ k' = k
    · rw [if_pos (by omega)]; simp [U, hc]
    · rw [if_neg (by omega)]; simp only [U, if_neg hc]; exact v4 j k' hj
/-- a store into a fixed cell of the class -/
theorem st_suc (h : St x B C W M) {a : Nat} (ha : a < 22 ∨ a = 24) (k v : Nat) : St x B (U C a k v) W (sV M (B + a) k (i32 v)) := by
  obtain ⟨h1, h2, h3, ⟨l1, l2, l3⟩, ⟨m1, m2, m3⟩, h6, v1, v2, v3, v4, v5⟩ := h
  have e60 : U C a k v 60 = C 60 := by funext j; exact U_r _ (by omega) _ _ _
  have e70 : U C a k v 70 = C 70 := by funext j; exact U_r _ (by omega) _ _ _
  have e71 : U C a k v 71 = C 71 := by funext j; exact U_r _ (by omega) _ _ _
  have e72 : U C a k v 72 = C 72 := by funext j; exact U_r _ (by omega) _ _ _
  have e73 : U C a k v 73 = C 73 := by funext j; exact U_r _ (by omega) _ _ _
  unfold St StV StT
  rw [e60, e70, e71, e72, e73]
  refine ⟨h1, h2, h3, ⟨l1, ?_, l3⟩, ⟨m1, ?_, m3⟩, h6, ?_, ?_, ?_, ?_, by rw [U_r _ (by omega)]; exact v5⟩
  · rw [sV_Vn _ _ _ _ _ (by omega)]; exact l2
  · rw [sV_Vn _ _ _ _ _ (by omega)]; exact m2
  · intro b k' hb
    rw [sV_V]
    by_cases hc : b = a ∧ k' = k
    · rw [if_pos (by omega)]; simp [U, hc]
    · rw [if_neg (by omega)]; simp only [U, if_neg hc]; exact v1 b k' hb
  · intro j d k' hj hd
    have := (h3.2.1 j hj).1.1
    rw [sV_Vn _ _ _ _ _ (by omega), U_r _ (by omega)]; exact v2 j d k' hj hd
  · intro j k' hj
    have := (m3.2.2 j hj).2.2.1
    rw [sV_Vn _ _ _ _ _ (by omega), U_r _ (by omega)]; exact v3 j k' hj
  · intro j k' hj
    rw [sV_Vn _ _ _ _ _ (by omega)]; exact v4 j k' hj
/-- a store into a transaction -/
theorem st_sut (h : St x B C W M) {i d : Nat} (hi : i < C 60 0) (hd : d < 5) (k v : Nat) : St x B (U C (100 + 5 * i + d) k v) W (sV M (C 70 i + d) k (i32 v)) := by
  obtain ⟨h1, h2, h3, ⟨l1, l2, l3⟩, ⟨m1, m2, m3⟩, h6, v1, v2, v3, v4, v5⟩ := h
  have e60 : U C (100 + 5 * i + d) k v 60 = C 60 := by funext j; exact U_r _ (by omega) _ _ _
  have e70 : U C (100 + 5 * i + d) k v 70 = C 70 := by funext j; exact U_r _ (by omega) _ _ _
  have e71 : U C (100 + 5 * i + d) k v 71 = C 71 := by funext j; exact U_r _ (by omega) _ _ _
  have e72 : U C (100 + 5 * i + d) k v 72 = C 72 := by funext j; exact U_r _ (by omega) _ _ _
  have e73 : U C (100 + 5 * i + d) k v 73 = C 73 := by funext j; exact U_r _ (by omega) _ _ _
  have t5 := h3.2.1 i hi
  have hb := t5.1.1
  have h200 := h3.1
  unfold St StV StT
  rw [e60, e70, e71, e72, e73]
  refine ⟨h1, h2, h3, ⟨l1, ?_, l3⟩, ⟨m1, ?_, m3⟩, h6, ?_, ?_, ?_, ?_, by rw [U_r _ (by omega)]; exact v5⟩
  · rw [sV_Vn _ _ _ _ _ (by omega)]; exact l2
  · rw [sV_Vn _ _ _ _ _ (by omega)]; exact m2
  · intro b k' hb'
    rw [sV_Vn _ _ _ _ _ (by omega), U_r _ (by omega)]; exact v1 b k' hb'
  · intro j d' k' hj hd'
    rw [sV_V]
    have hq : C 70 j + d' = C 70 i + d → j = i ∧ d' = d := by
      intro e
      rcases Nat.lt_trichotomy i j with hlt | heq | hlt
      · have := h3.2.2 i j hlt hj; omega
      · subst heq; omega
      · have := h3.2.2 j i hlt hi; omega
    by_cases hc : C 70 j + d' = C 70 i + d ∧ k' = k
    · obtain ⟨rfl, rfl⟩ := hq hc.1
      rw [if_pos hc]; simp [U, hc.2]
    · rw [if_neg hc]
      have : ¬ (100 + 5 * j + d' = 100 + 5 * i + d ∧ k' = k) := by
        intro e
        have e1 : j = i := by omega
        subst e1
        exact hc ⟨by omega, e.2⟩
      simp only [U, if_neg this]; exact v2 j d' k' hj hd'
  · intro j k' hj
    have hk := (m3.2.2 j hj).2.1
    have hne : C 71 j ≠ C 70 i + d := by
      intro e
      rw [e] at hk
      obtain ⟨-, q0, -, ⟨q1, q2, q3, q4⟩, -⟩ := t5
      rcases (show d = 0 ∨ d = 1 ∨ d = 2 ∨ d = 3 ∨ d = 4 by omega) with rfl | rfl | rfl | rfl | rfl
      · rw [Nat.add_zero] at hk; omega
      · omega
      · omega
      · omega
      · omega
    have h300 : j < 600 := by have := m3.1; omega
    rw [sV_Vn _ _ _ _ _ hne, U_r _ (by omega)]; exact v3 j k' hj
  · intro j k' hj
    rw [sV_Vn _ _ _ _ _ (by omega)]; exact v4 j k' hj
theorem suS0 (h : St x B C W M) {s : Nat} (hs : s < 5) (k v : Nat) : St x B (U C (2 + 4 * s) k v) W (sV M (sA B s) k (i32 v)) := by
  have := st_suc h (a := 2 + 4 * s) (by omega) k v; rw [show B + (2 + 4 * s) = sA B s by unfold sA; omega] at this; exact this
theorem suS1 (h : St x B C W M) {s : Nat} (hs : s < 5) (k v : Nat) : St x B (U C (3 + 4 * s) k v) W (sV M (sA B s + 1) k (i32 v)) := by
  have := st_suc h (a := 3 + 4 * s) (by omega) k v; rw [show B + (3 + 4 * s) = sA B s + 1 by unfold sA; omega] at this; exact this
theorem suS2 (h : St x B C W M) {s : Nat} (hs : s < 5) (k v : Nat) : St x B (U C (4 + 4 * s) k v) W (sV M (sA B s + 2) k (i32 v)) := by
  have := st_suc h (a := 4 + 4 * s) (by omega) k v; rw [show B + (4 + 4 * s) = sA B s + 2 by unfold sA; omega] at this; exact this
theorem suS3 (h : St x B C W M) {s : Nat} (hs : s < 5) (k v : Nat) : St x B (U C (5 + 4 * s) k v) W (sV M (sA B s + 3) k (i32 v)) := by
  have := st_suc h (a := 5 + 4 * s) (by omega) k v; rw [show B + (5 + 4 * s) = sA B s + 3 by unfold sA; omega] at this; exact this
theorem suB (h : St x B C W M) (k v : Nat) : St x B (U C 0 k v) W (sV M B k (i32 v)) := st_suc h (a := 0) (by omega) k v
theorem suF (h : St x B C W M) (k v : Nat) : St x B (U C 24 k v) W (sV M (B + 24) k (i32 v)) := st_suc h (a := 24) (by omega) k v
theorem suT0 (h : St x B C W M) {i : Nat} (hi : i < C 60 0) (k v : Nat) : St x B (U C (100 + 5 * i) k v) W (sV M (C 70 i) k (i32 v)) := st_sut h hi (d := 0) (by omega) k v
theorem suT1 (h : St x B C W M) {i : Nat} (hi : i < C 60 0) (k v : Nat) : St x B (U C (101 + 5 * i) k v) W (sV M (C 70 i + 1) k (i32 v)) := by
  have := st_sut h hi (d := 1) (by omega) k v; rw [show 100 + 5 * i + 1 = 101 + 5 * i by omega] at this; exact this
theorem suT2 (h : St x B C W M) {i : Nat} (hi : i < C 60 0) (k v : Nat) : St x B (U C (102 + 5 * i) k v) W (sV M (C 70 i + 2) k (i32 v)) := by
  have := st_sut h hi (d := 2) (by omega) k v; rw [show 100 + 5 * i + 2 = 102 + 5 * i by omega] at this; exact this
theorem suT3 (h : St x B C W M) {i : Nat} (hi : i < C 60 0) (k v : Nat) : St x B (U C (103 + 5 * i) k v) W (sV M (C 70 i + 3) k (i32 v)) := by
  have := st_sut h hi (d := 3) (by omega) k v; rw [show 100 + 5 * i + 3 = 103 + 5 * i by omega] at this; exact this
theorem suT4 (h : St x B C W M) {i : Nat} (hi : i < C 60 0) (k v : Nat) : St x B (U C (104 + 5 * i) k v) W (sV M (C 70 i + 4) k (i32 v)) := by
  have := st_sut h hi (d := 4) (by omega) k v; rw [show 100 + 5 * i + 4 = 104 + 5 * i by omega] at this; exact this
/-- a store that nobody reads: a list's count of changes -/
theorem st_smod (h : St x B C W M) {a : Nat} (ha : a = 22 ∨ a = 23) (v : Int32) : St x B C W (sV M (B + a) 0 v) := by
  obtain ⟨h1, h2, h3, ⟨l1, l2, l3⟩, ⟨m1, m2, m3⟩, h6, v1, v2, v3, v4, v5⟩ := h
  refine ⟨h1, h2, h3, ⟨l1, ?_, l3⟩, ⟨m1, ?_, m3⟩, h6, ?_, ?_, ?_, ?_, v5⟩
  · rw [sV_V, if_neg (by omega)]; exact l2
  · rw [sV_V, if_neg (by omega)]; exact m2
  · intro a k' ha; rw [sV_Vn _ _ _ _ _ (by omega)]; exact v1 a k' ha
  · intro j d k' hj hd
    have := (h3.2.1 j hj).1.1
    rw [sV_Vn _ _ _ _ _ (by omega)]; exact v2 j d k' hj hd
  · intro j k' hj
    have := (m3.2.2 j hj).2.2.1
    rw [sV_Vn _ _ _ _ _ (by omega)]; exact v3 j k' hj
  · intro j k' hj
    rw [sV_Vn _ _ _ _ _ (by omega)]; exact v4 j k' hj
theorem st_sj (h : St x B C W M) (n : Nat) : St x B (U C 74 0 n) W (sJ M (B + 47) 0 (i32 n).toInt64) := by
  obtain ⟨h1, h2, h3, l, m, h6, v1, v2, v3, v4, v5⟩ := h
  have e60 : U C 74 0 n 60 = C 60 := by funext j; exact U_r _ (by omega) _ _ _
  have e70 : U C 74 0 n 70 = C 70 := by funext j; exact U_r _ (by omega) _ _ _
  have e71 : U C 74 0 n 71 = C 71 := by funext j; exact U_r _ (by omega) _ _ _
  have e72 : U C 74 0 n 72 = C 72 := by funext j; exact U_r _ (by omega) _ _ _
  have e73 : U C 74 0 n 73 = C 73 := by funext j; exact U_r _ (by omega) _ _ _
  unfold St StV StT
  rw [e60, e70, e71, e72, e73]
  refine ⟨h1, h2, h3, l, m, h6, ?_, ?_, ?_, v4, ?_⟩
  · intro a k' ha; rw [U_r _ (by omega)]; exact v1 a k' ha
  · intro j d k' hj hd; rw [U_r _ (by omega)]; exact v2 j d k' hj hd
  · intro j k' hj; rw [U_r _ (by omega)]; exact v3 j k' hj
  · rw [U_s]; simp [sJ, mJ, va_up]
theorem st_j (h : St x B C W M) : mJ M (B + 47) 0 = (i32 (C 74 0)).toInt64 := h.2.2.2.2.2.2.2.2.2.2
/-- what a throw leaves -/
theorem st_sx (h : St x B C W M) (n z : Nat) (hn : mX M ≤ n) : St x B (U (U C 73 0 n) 73 1 z) W (sX M n z) := by
  obtain ⟨h1, h2, h3, ⟨l1, l2, l3⟩, ⟨m1, m2, m3⟩, h6, v1, v2, v3, v4, v5⟩ := h
  have e60 : U (U C 73 0 n) 73 1 z 60 = C 60 := by funext j; rw [U_r _ (by omega), U_r _ (by omega)]
  have e70 : U (U C 73 0 n) 73 1 z 70 = C 70 := by funext j; rw [U_r _ (by omega), U_r _ (by omega)]
  have e71 : U (U C 73 0 n) 73 1 z 71 = C 71 := by funext j; rw [U_r _ (by omega), U_r _ (by omega)]
  have e72 : U (U C 73 0 n) 73 1 z 72 = C 72 := by funext j; rw [U_r _ (by omega), U_r _ (by omega)]
  have e0 : U (U C 73 0 n) 73 1 z 73 0 = n := by rw [U_k _ _ _ (by omega), U_s]
  have e1 : U (U C 73 0 n) 73 1 z 73 1 = z := U_s _ _ _ _
  unfold St StV StT
  rw [e60, e70, e71, e72, e0, e1]
  have hx : mX (sX M n z) = n := rfl
  refine ⟨⟨h1.1, by omega, rfl, rfl⟩, h2, ⟨h3.1, fun i hi => ?_, h3.2.2⟩, ⟨l1, l2, l3.1, ?_, fun j hj => ?_⟩, ⟨m1, m2, m3.1, ?_, fun j hj => ?_⟩, h6, ?_, ?_, ?_, ?_, by rw [U_r _ (by omega), U_r _ (by omega)]; exact v5⟩
  · obtain ⟨⟨q1, q2⟩, q3⟩ := h3.2.1 i hi
    exact ⟨⟨q1, by omega⟩, q3⟩
  · rcases l3.2.1 with q | ⟨q1, q2, q3, q4⟩
    · exact Or.inl q
    · exact Or.inr ⟨q1, q2, by omega, q4⟩
  · obtain ⟨q1, q2, q3, q4⟩ := l3.2.2 j hj
    exact ⟨q1, q2, q3, by omega⟩
  · rcases m3.2.1 with q | ⟨q1, q2, q3, q4⟩
    · exact Or.inl q
    · exact Or.inr ⟨q1, q2, by omega, q4⟩
  · obtain ⟨q1, q2, q3, q4⟩ := m3.2.2 j hj
    exact ⟨q1, q2, q3, by omega⟩
  · intro a k' ha; rw [U_r _ (by omega), U_r _ (by omega)]; exact v1 a k' ha
  · intro j d k' hj hd
    rw [U_r _ (by omega), U_r _ (by omega)]; exact v2 j d k' hj hd
  · intro j k' hj
    rw [U_r _ (by omega), U_r _ (by omega)]; exact v3 j k' hj
  · exact v4
end St
theorem mp1 {x : Cx} {B : Nat} {C W : Ab} {M : Mm} (h : St x B C W M) : mP M (B + 25) 1 = some (B + 26) := st_p h 25 1 (by decide)
theorem mk1 {x : Cx} {B : Nat} {C W : Ab} {M : Mm} (h : St x B C W M) : mK M (B + 26) = 8 := st_k h 26 (by decide)
theorem mn1 {x : Cx} {B : Nat} {C W : Ab} {M : Mm} (h : St x B C W M) : mN M (B + 26) = 25 := st_n h 26 (by decide) (by decide)
theorem mp2 {x : Cx} {B : Nat} {C W : Ab} {M : Mm} (h : St x B C W M) : mP M (B + 25) 2 = some (B + 27) := st_p h 25 2 (by decide)
theorem mk2 {x : Cx} {B : Nat} {C W : Ab} {M : Mm} (h : St x B C W M) : mK M (B + 27) = 9 := st_k h 27 (by decide)
theorem mn2 {x : Cx} {B : Nat} {C W : Ab} {M : Mm} (h : St x B C W M) : mN M (B + 27) = 5 := st_n h 27 (by decide) (by decide)
theorem mp3 {x : Cx} {B : Nat} {C W : Ab} {M : Mm} (h : St x B C W M) : mP M (B + 25) 3 = some (B + 28) := st_p h 25 3 (by decide)
theorem mk3 {x : Cx} {B : Nat} {C W : Ab} {M : Mm} (h : St x B C W M) : mK M (B + 28) = 8 := st_k h 28 (by decide)
theorem mn3 {x : Cx} {B : Nat} {C W : Ab} {M : Mm} (h : St x B C W M) : mN M (B + 28) = 100 := st_n h 28 (by decide) (by decide)
theorem mp4 {x : Cx} {B : Nat} {C W : Ab} {M : Mm} (h : St x B C W M) : mP M (B + 25) 6 = some (B + 29) := st_p h 25 6 (by decide)
theorem mk4 {x : Cx} {B : Nat} {C W : Ab} {M : Mm} (h : St x B C W M) : mK M (B + 29) = 8 := st_k h 29 (by decide)
theorem mn4 {x : Cx} {B : Nat} {C W : Ab} {M : Mm} (h : St x B C W M) : mN M (B + 29) = 200 := st_n h 29 (by decide) (by decide)
theorem mp5 {x : Cx} {B : Nat} {C W : Ab} {M : Mm} (h : St x B C W M) : mP M (B + 25) 7 = some (B + 30) := st_p h 25 7 (by decide)
theorem mk5 {x : Cx} {B : Nat} {C W : Ab} {M : Mm} (h : St x B C W M) : mK M (B + 30) = 8 := st_k h 30 (by decide)
theorem mn5 {x : Cx} {B : Nat} {C W : Ab} {M : Mm} (h : St x B C W M) : mN M (B + 30) = 200 := st_n h 30 (by decide) (by decide)
theorem mp6 {x : Cx} {B : Nat} {C W : Ab} {M : Mm} (h : St x B C W M) : mP M (B + 25) 8 = some (B + 31) := st_p h 25 8 (by decide)
theorem mk6 {x : Cx} {B : Nat} {C W : Ab} {M : Mm} (h : St x B C W M) : mK M (B + 31) = 8 := st_k h 31 (by decide)
theorem mn6 {x : Cx} {B : Nat} {C W : Ab} {M : Mm} (h : St x B C W M) : mN M (B + 31) = 200 := st_n h 31 (by decide) (by decide)
theorem mp7 {x : Cx} {B : Nat} {C W : Ab} {M : Mm} (h : St x B C W M) : mP M (B + 25) 9 = some (B + 32) := st_p h 25 9 (by decide)
theorem mk7 {x : Cx} {B : Nat} {C W : Ab} {M : Mm} (h : St x B C W M) : mK M (B + 32) = 8 := st_k h 32 (by decide)
theorem mn7 {x : Cx} {B : Nat} {C W : Ab} {M : Mm} (h : St x B C W M) : mN M (B + 32) = 1000 := st_n h 32 (by decide) (by decide)
theorem mp8 {x : Cx} {B : Nat} {C W : Ab} {M : Mm} (h : St x B C W M) : mP M (B + 25) 10 = some (B + 33) := st_p h 25 10 (by decide)
theorem mk8 {x : Cx} {B : Nat} {C W : Ab} {M : Mm} (h : St x B C W M) : mK M (B + 33) = 8 := st_k h 33 (by decide)
theorem mn8 {x : Cx} {B : Nat} {C W : Ab} {M : Mm} (h : St x B C W M) : mN M (B + 33) = 1000 := st_n h 33 (by decide) (by decide)
theorem mp9 {x : Cx} {B : Nat} {C W : Ab} {M : Mm} (h : St x B C W M) : mP M (B + 25) 11 = some (B + 34) := st_p h 25 11 (by decide)
theorem mk9 {x : Cx} {B : Nat} {C W : Ab} {M : Mm} (h : St x B C W M) : mK M (B + 34) = 9 := st_k h 34 (by decide)
theorem mn9 {x : Cx} {B : Nat} {C W : Ab} {M : Mm} (h : St x B C W M) : mN M (B + 34) = 1000 := st_n h 34 (by decide) (by decide)
theorem mp10 {x : Cx} {B : Nat} {C W : Ab} {M : Mm} (h : St x B C W M) : mP M (B + 25) 12 = some (B + 35) := st_p h 25 12 (by decide)
theorem mk10 {x : Cx} {B : Nat} {C W : Ab} {M : Mm} (h : St x B C W M) : mK M (B + 35) = 9 := st_k h 35 (by decide)
theorem mn10 {x : Cx} {B : Nat} {C W : Ab} {M : Mm} (h : St x B C W M) : mN M (B + 35) = 1000 := st_n h 35 (by decide) (by decide)
theorem mp11 {x : Cx} {B : Nat} {C W : Ab} {M : Mm} (h : St x B C W M) : mP M (B + 25) 13 = some (B + 36) := st_p h 25 13 (by decide)
theorem mk11 {x : Cx} {B : Nat} {C W : Ab} {M : Mm} (h : St x B C W M) : mK M (B + 36) = 9 := st_k h 36 (by decide)
theorem mn11 {x : Cx} {B : Nat} {C W : Ab} {M : Mm} (h : St x B C W M) : mN M (B + 36) = 1000 := st_n h 36 (by decide) (by decide)
theorem mp12 {x : Cx} {B : Nat} {C W : Ab} {M : Mm} (h : St x B C W M) : mP M (B + 25) 14 = some (B + 37) := st_p h 25 14 (by decide)
theorem mk12 {x : Cx} {B : Nat} {C W : Ab} {M : Mm} (h : St x B C W M) : mK M (B + 37) = 9 := st_k h 37 (by decide)
theorem mn12 {x : Cx} {B : Nat} {C W : Ab} {M : Mm} (h : St x B C W M) : mN M (B + 37) = 1000 := st_n h 37 (by decide) (by decide)
theorem mp13 {x : Cx} {B : Nat} {C W : Ab} {M : Mm} (h : St x B C W M) : mP M (B + 25) 15 = some (B + 38) := st_p h 25 15 (by decide)
theorem mk13 {x : Cx} {B : Nat} {C W : Ab} {M : Mm} (h : St x B C W M) : mK M (B + 38) = 9 := st_k h 38 (by decide)
theorem mn13 {x : Cx} {B : Nat} {C W : Ab} {M : Mm} (h : St x B C W M) : mN M (B + 38) = 4000 := st_n h 38 (by decide) (by decide)
theorem mp14 {x : Cx} {B : Nat} {C W : Ab} {M : Mm} (h : St x B C W M) : mP M (B + 25) 16 = some (B + 39) := st_p h 25 16 (by decide)
theorem mk14 {x : Cx} {B : Nat} {C W : Ab} {M : Mm} (h : St x B C W M) : mK M (B + 39) = 8 := st_k h 39 (by decide)
theorem mn14 {x : Cx} {B : Nat} {C W : Ab} {M : Mm} (h : St x B C W M) : mN M (B + 39) = 4000 := st_n h 39 (by decide) (by decide)
theorem mp15 {x : Cx} {B : Nat} {C W : Ab} {M : Mm} (h : St x B C W M) : mP M (B + 25) 17 = some (B + 40) := st_p h 25 17 (by decide)
theorem mk15 {x : Cx} {B : Nat} {C W : Ab} {M : Mm} (h : St x B C W M) : mK M (B + 40) = 8 := st_k h 40 (by decide)
theorem mn15 {x : Cx} {B : Nat} {C W : Ab} {M : Mm} (h : St x B C W M) : mN M (B + 40) = 4000 := st_n h 40 (by decide) (by decide)
theorem mp16 {x : Cx} {B : Nat} {C W : Ab} {M : Mm} (h : St x B C W M) : mP M (B + 25) 18 = some (B + 41) := st_p h 25 18 (by decide)
theorem mk16 {x : Cx} {B : Nat} {C W : Ab} {M : Mm} (h : St x B C W M) : mK M (B + 41) = 8 := st_k h 41 (by decide)
theorem mn16 {x : Cx} {B : Nat} {C W : Ab} {M : Mm} (h : St x B C W M) : mN M (B + 41) = 4000 := st_n h 41 (by decide) (by decide)
theorem mp17 {x : Cx} {B : Nat} {C W : Ab} {M : Mm} (h : St x B C W M) : mP M (B + 25) 19 = some (B + 42) := st_p h 25 19 (by decide)
theorem mk17 {x : Cx} {B : Nat} {C W : Ab} {M : Mm} (h : St x B C W M) : mK M (B + 42) = 8 := st_k h 42 (by decide)
theorem mn17 {x : Cx} {B : Nat} {C W : Ab} {M : Mm} (h : St x B C W M) : mN M (B + 42) = 200 := st_n h 42 (by decide) (by decide)
theorem mp18 {x : Cx} {B : Nat} {C W : Ab} {M : Mm} (h : St x B C W M) : mP M (B + 25) 20 = some (B + 43) := st_p h 25 20 (by decide)
theorem mk18 {x : Cx} {B : Nat} {C W : Ab} {M : Mm} (h : St x B C W M) : mK M (B + 43) = 9 := st_k h 43 (by decide)
theorem mn18 {x : Cx} {B : Nat} {C W : Ab} {M : Mm} (h : St x B C W M) : mN M (B + 43) = 200 := st_n h 43 (by decide) (by decide)
theorem mp19 {x : Cx} {B : Nat} {C W : Ab} {M : Mm} (h : St x B C W M) : mP M (B + 25) 21 = some (B + 44) := st_p h 25 21 (by decide)
theorem mk19 {x : Cx} {B : Nat} {C W : Ab} {M : Mm} (h : St x B C W M) : mK M (B + 44) = 9 := st_k h 44 (by decide)
theorem mn19 {x : Cx} {B : Nat} {C W : Ab} {M : Mm} (h : St x B C W M) : mN M (B + 44) = 200 := st_n h 44 (by decide) (by decide)
theorem mp20 {x : Cx} {B : Nat} {C W : Ab} {M : Mm} (h : St x B C W M) : mP M (B + 25) 22 = some (B + 45) := st_p h 25 22 (by decide)
theorem mk20 {x : Cx} {B : Nat} {C W : Ab} {M : Mm} (h : St x B C W M) : mK M (B + 45) = 8 := st_k h 45 (by decide)
theorem mn20 {x : Cx} {B : Nat} {C W : Ab} {M : Mm} (h : St x B C W M) : mN M (B + 45) = 1200 := st_n h 45 (by decide) (by decide)
theorem mp21 {x : Cx} {B : Nat} {C W : Ab} {M : Mm} (h : St x B C W M) : mP M (B + 25) 25 = some (B + 46) := st_p h 25 25 (by decide)
theorem mk21 {x : Cx} {B : Nat} {C W : Ab} {M : Mm} (h : St x B C W M) : mK M (B + 46) = 8 := st_k h 46 (by decide)
theorem mn21 {x : Cx} {B : Nat} {C W : Ab} {M : Mm} (h : St x B C W M) : mN M (B + 46) = 300 := st_n h 46 (by decide) (by decide)
theorem mv0 {x : Cx} {B : Nat} {C W : Ab} {M : Mm} (h : St x B C W M) (k : Nat) : mV M (B + 25) k = i32 (W 0 k) := st_w h 0 (by decide) k
theorem su0 {x : Cx} {B : Nat} {C W : Ab} {M : Mm} (h : St x B C W M) (k v : Nat) : St x B C (U W 0 k v) (sV M (B + 25) k (i32 v)) := st_suw h (i := 0) (by decide) k v
theorem mv1 {x : Cx} {B : Nat} {C W : Ab} {M : Mm} (h : St x B C W M) (k : Nat) : mV M (B + 26) k = i32 (W 1 k) := st_w h 1 (by decide) k
theorem su1 {x : Cx} {B : Nat} {C W : Ab} {M : Mm} (h : St x B C W M) (k v : Nat) : St x B C (U W 1 k v) (sV M (B + 26) k (i32 v)) := st_suw h (i := 1) (by decide) k v
theorem mv2 {x : Cx} {B : Nat} {C W : Ab} {M : Mm} (h : St x B C W M) (k : Nat) : mV M (B + 27) k = i32 (W 2 k) := st_w h 2 (by decide) k
theorem su2 {x : Cx} {B : Nat} {C W : Ab} {M : Mm} (h : St x B C W M) (k v : Nat) : St x B C (U W 2 k v) (sV M (B + 27) k (i32 v)) := st_suw h (i := 2) (by decide) k v
theorem mv3 {x : Cx} {B : Nat} {C W : Ab} {M : Mm} (h : St x B C W M) (k : Nat) : mV M (B + 28) k = i32 (W 3 k) := st_w h 3 (by decide) k
theorem su3 {x : Cx} {B : Nat} {C W : Ab} {M : Mm} (h : St x B C W M) (k v : Nat) : St x B C (U W 3 k v) (sV M (B + 28) k (i32 v)) := st_suw h (i := 3) (by decide) k v
theorem mv4 {x : Cx} {B : Nat} {C W : Ab} {M : Mm} (h : St x B C W M) (k : Nat) : mV M (B + 29) k = i32 (W 4 k) := st_w h 4 (by decide) k
theorem su4 {x : Cx} {B : Nat} {C W : Ab} {M : Mm} (h : St x B C W M) (k v : Nat) : St x B C (U W 4 k v) (sV M (B + 29) k (i32 v)) := st_suw h (i := 4) (by decide) k v
theorem mv5 {x : Cx} {B : Nat} {C W : Ab} {M : Mm} (h : St x B C W M) (k : Nat) : mV M (B + 30) k = i32 (W 5 k) := st_w h 5 (by decide) k
theorem su5 {x : Cx} {B : Nat} {C W : Ab} {M : Mm} (h : St x B C W M) (k v : Nat) : St x B C (U W 5 k v) (sV M (B + 30) k (i32 v)) := st_suw h (i := 5) (by decide) k v
theorem mv6 {x : Cx} {B : Nat} {C W : Ab} {M : Mm} (h : St x B C W M) (k : Nat) : mV M (B + 31) k = i32 (W 6 k) := st_w h 6 (by decide) k
theorem su6 {x : Cx} {B : Nat} {C W : Ab} {M : Mm} (h : St x B C W M) (k v : Nat) : St x B C (U W 6 k v) (sV M (B + 31) k (i32 v)) := st_suw h (i := 6) (by decide) k v
theorem mv7 {x : Cx} {B : Nat} {C W : Ab} {M : Mm} (h : St x B C W M) (k : Nat) : mV M (B + 32) k = i32 (W 7 k) := st_w h 7 (by decide) k
theorem su7 {x : Cx} {B : Nat} {C W : Ab} {M : Mm} (h : St x B C W M) (k v : Nat) : St x B C (U W 7 k v) (sV M (B + 32) k (i32 v)) := st_suw h (i := 7) (by decide) k v
theorem mv8 {x : Cx} {B : Nat} {C W : Ab} {M : Mm} (h : St x B C W M) (k : Nat) : mV M (B + 33) k = i32 (W 8 k) := st_w h 8 (by decide) k
theorem su8 {x : Cx} {B : Nat} {C W : Ab} {M : Mm} (h : St x B C W M) (k v : Nat) : St x B C (U W 8 k v) (sV M (B + 33) k (i32 v)) := st_suw h (i := 8) (by decide) k v
theorem mv9 {x : Cx} {B : Nat} {C W : Ab} {M : Mm} (h : St x B C W M) (k : Nat) : mV M (B + 34) k = i32 (W 9 k) := st_w h 9 (by decide) k
theorem su9 {x : Cx} {B : Nat} {C W : Ab} {M : Mm} (h : St x B C W M) (k v : Nat) : St x B C (U W 9 k v) (sV M (B + 34) k (i32 v)) := st_suw h (i := 9) (by decide) k v
theorem mv10 {x : Cx} {B : Nat} {C W : Ab} {M : Mm} (h : St x B C W M) (k : Nat) : mV M (B + 35) k = i32 (W 10 k) := st_w h 10 (by decide) k
theorem su10 {x : Cx} {B : Nat} {C W : Ab} {M : Mm} (h : St x B C W M) (k v : Nat) : St x B C (U W 10 k v) (sV M (B + 35) k (i32 v)) := st_suw h (i := 10) (by decide) k v
theorem mv11 {x : Cx} {B : Nat} {C W : Ab} {M : Mm} (h : St x B C W M) (k : Nat) : mV M (B + 36) k = i32 (W 11 k) := st_w h 11 (by decide) k
theorem su11 {x : Cx} {B : Nat} {C W : Ab} {M : Mm} (h : St x B C W M) (k v : Nat) : St x B C (U W 11 k v) (sV M (B + 36) k (i32 v)) := st_suw h (i := 11) (by decide) k v
theorem mv12 {x : Cx} {B : Nat} {C W : Ab} {M : Mm} (h : St x B C W M) (k : Nat) : mV M (B + 37) k = i32 (W 12 k) := st_w h 12 (by decide) k
theorem su12 {x : Cx} {B : Nat} {C W : Ab} {M : Mm} (h : St x B C W M) (k v : Nat) : St x B C (U W 12 k v) (sV M (B + 37) k (i32 v)) := st_suw h (i := 12) (by decide) k v
theorem mv13 {x : Cx} {B : Nat} {C W : Ab} {M : Mm} (h : St x B C W M) (k : Nat) : mV M (B + 38) k = i32 (W 13 k) := st_w h 13 (by decide) k
theorem su13 {x : Cx} {B : Nat} {C W : Ab} {M : Mm} (h : St x B C W M) (k v : Nat) : St x B C (U W 13 k v) (sV M (B + 38) k (i32 v)) := st_suw h (i := 13) (by decide) k v
theorem mv14 {x : Cx} {B : Nat} {C W : Ab} {M : Mm} (h : St x B C W M) (k : Nat) : mV M (B + 39) k = i32 (W 14 k) := st_w h 14 (by decide) k
theorem su14 {x : Cx} {B : Nat} {C W : Ab} {M : Mm} (h : St x B C W M) (k v : Nat) : St x B C (U W 14 k v) (sV M (B + 39) k (i32 v)) := st_suw h (i := 14) (by decide) k v
theorem mv15 {x : Cx} {B : Nat} {C W : Ab} {M : Mm} (h : St x B C W M) (k : Nat) : mV M (B + 40) k = i32 (W 15 k) := st_w h 15 (by decide) k
theorem su15 {x : Cx} {B : Nat} {C W : Ab} {M : Mm} (h : St x B C W M) (k v : Nat) : St x B C (U W 15 k v) (sV M (B + 40) k (i32 v)) := st_suw h (i := 15) (by decide) k v
theorem mv16 {x : Cx} {B : Nat} {C W : Ab} {M : Mm} (h : St x B C W M) (k : Nat) : mV M (B + 41) k = i32 (W 16 k) := st_w h 16 (by decide) k
theorem su16 {x : Cx} {B : Nat} {C W : Ab} {M : Mm} (h : St x B C W M) (k v : Nat) : St x B C (U W 16 k v) (sV M (B + 41) k (i32 v)) := st_suw h (i := 16) (by decide) k v
theorem mv17 {x : Cx} {B : Nat} {C W : Ab} {M : Mm} (h : St x B C W M) (k : Nat) : mV M (B + 42) k = i32 (W 17 k) := st_w h 17 (by decide) k
theorem su17 {x : Cx} {B : Nat} {C W : Ab} {M : Mm} (h : St x B C W M) (k v : Nat) : St x B C (U W 17 k v) (sV M (B + 42) k (i32 v)) := st_suw h (i := 17) (by decide) k v
theorem mv18 {x : Cx} {B : Nat} {C W : Ab} {M : Mm} (h : St x B C W M) (k : Nat) : mV M (B + 43) k = i32 (W 18 k) := st_w h 18 (by decide) k
theorem su18 {x : Cx} {B : Nat} {C W : Ab} {M : Mm} (h : St x B C W M) (k v : Nat) : St x B C (U W 18 k v) (sV M (B + 43) k (i32 v)) := st_suw h (i := 18) (by decide) k v
theorem mv19 {x : Cx} {B : Nat} {C W : Ab} {M : Mm} (h : St x B C W M) (k : Nat) : mV M (B + 44) k = i32 (W 19 k) := st_w h 19 (by decide) k
theorem su19 {x : Cx} {B : Nat} {C W : Ab} {M : Mm} (h : St x B C W M) (k v : Nat) : St x B C (U W 19 k v) (sV M (B + 44) k (i32 v)) := st_suw h (i := 19) (by decide) k v
theorem mv20 {x : Cx} {B : Nat} {C W : Ab} {M : Mm} (h : St x B C W M) (k : Nat) : mV M (B + 45) k = i32 (W 20 k) := st_w h 20 (by decide) k
theorem su20 {x : Cx} {B : Nat} {C W : Ab} {M : Mm} (h : St x B C W M) (k v : Nat) : St x B C (U W 20 k v) (sV M (B + 45) k (i32 v)) := st_suw h (i := 20) (by decide) k v
theorem mv21 {x : Cx} {B : Nat} {C W : Ab} {M : Mm} (h : St x B C W M) (k : Nat) : mV M (B + 46) k = i32 (W 21 k) := st_w h 21 (by decide) k
theorem su21 {x : Cx} {B : Nat} {C W : Ab} {M : Mm} (h : St x B C W M) (k v : Nat) : St x B C (U W 21 k v) (sV M (B + 46) k (i32 v)) := st_suw h (i := 21) (by decide) k v
theorem md_all {x : Cx} {B : Nat} {C W : Ab} {M : Mm} (h : St x B C W M) : mK M (B + 25) = 6 ∧ mP M (B + 25) 1 = some (B + 26) ∧ mK M (B + 26) = 8 ∧ mN M (B + 26) = 25 ∧ mP M (B + 25) 2 = some (B + 27) ∧ mK M (B + 27) = 9 ∧ mN M (B + 27) = 5 ∧ mP M (B + 25) 3 = some (B + 28) ∧ mK M (B + 28) = 8 ∧ mN M (B + 28) = 100 ∧ mP M (B + 25) 6 = some (B + 29) ∧ mK M (B + 29) = 8 ∧ mN M (B + 29) = 200 ∧ mP M (B + 25) 7 = some (B + 30) ∧ mK M (B + 30) = 8 ∧ mN M (B + 30) = 200 ∧ mP M (B + 25) 8 = some (B + 31) ∧ mK M (B + 31) = 8 ∧ mN M (B + 31) = 200 ∧ mP M (B + 25) 9 = some (B + 32) ∧ mK M (B + 32) = 8 ∧ mN M (B + 32) = 1000 ∧ mP M (B + 25) 10 = some (B + 33) ∧ mK M (B + 33) = 8 ∧ mN M (B + 33) = 1000 ∧ mP M (B + 25) 11 = some (B + 34) ∧ mK M (B + 34) = 9 ∧ mN M (B + 34) = 1000 ∧ mP M (B + 25) 12 = some (B + 35) ∧ mK M (B + 35) = 9 ∧ mN M (B + 35) = 1000 ∧ mP M (B + 25) 13 = some (B + 36) ∧ mK M (B + 36) = 9 ∧ mN M (B + 36) = 1000 ∧ mP M (B + 25) 14 = some (B + 37) ∧ mK M (B + 37) = 9 ∧ mN M (B + 37) = 1000 ∧ mP M (B + 25) 15 = some (B + 38) ∧ mK M (B + 38) = 9 ∧ mN M (B + 38) = 4000 ∧ mP M (B + 25) 16 = some (B + 39) ∧ mK M (B + 39) = 8 ∧ mN M (B + 39) = 4000 ∧ mP M (B + 25) 17 = some (B + 40) ∧ mK M (B + 40) = 8 ∧ mN M (B + 40) = 4000 ∧ mP M (B + 25) 18 = some (B + 41) ∧ mK M (B + 41) = 8 ∧ mN M (B + 41) = 4000 ∧ mP M (B + 25) 19 = some (B + 42) ∧ mK M (B + 42) = 8 ∧ mN M (B + 42) = 200 ∧ mP M (B + 25) 20 = some (B + 43) ∧ mK M (B + 43) = 9 ∧ mN M (B + 43) = 200 ∧ mP M (B + 25) 21 = some (B + 44) ∧ mK M (B + 44) = 9 ∧ mN M (B + 44) = 200 ∧ mP M (B + 25) 22 = some (B + 45) ∧ mK M (B + 45) = 8 ∧ mN M (B + 45) = 1200 ∧ mP M (B + 25) 25 = some (B + 46) ∧ mK M (B + 46) = 8 ∧ mN M (B + 46) = 300 ∧ (∀ k, mV M (B + 25) k = i32 (W 0 k)) ∧ (∀ k, mV M (B + 26) k = i32 (W 1 k)) ∧ (∀ k, mV M (B + 27) k = i32 (W 2 k)) ∧ (∀ k, mV M (B + 28) k = i32 (W 3 k)) ∧ (∀ k, mV M (B + 29) k = i32 (W 4 k)) ∧ (∀ k, mV M (B + 30) k = i32 (W 5 k)) ∧ (∀ k, mV M (B + 31) k = i32 (W 6 k)) ∧ (∀ k, mV M (B + 32) k = i32 (W 7 k)) ∧ (∀ k, mV M (B + 33) k = i32 (W 8 k)) ∧ (∀ k, mV M (B + 34) k = i32 (W 9 k)) ∧ (∀ k, mV M (B + 35) k = i32 (W 10 k)) ∧ (∀ k, mV M (B + 36) k = i32 (W 11 k)) ∧ (∀ k, mV M (B + 37) k = i32 (W 12 k)) ∧ (∀ k, mV M (B + 38) k = i32 (W 13 k)) ∧ (∀ k, mV M (B + 39) k = i32 (W 14 k)) ∧ (∀ k, mV M (B + 40) k = i32 (W 15 k)) ∧ (∀ k, mV M (B + 41) k = i32 (W 16 k)) ∧ (∀ k, mV M (B + 42) k = i32 (W 17 k)) ∧ (∀ k, mV M (B + 43) k = i32 (W 18 k)) ∧ (∀ k, mV M (B + 44) k = i32 (W 19 k)) ∧ (∀ k, mV M (B + 45) k = i32 (W 20 k)) ∧ (∀ k, mV M (B + 46) k = i32 (W 21 k)) := ⟨mkM h, mp1 h, mk1 h, mn1 h, mp2 h, mk2 h, mn2 h, mp3 h, mk3 h, mn3 h, mp4 h, mk4 h, mn4 h, mp5 h, mk5 h, mn5 h, mp6 h, mk6 h, mn6 h, mp7 h, mk7 h, mn7 h, mp8 h, mk8 h, mn8 h, mp9 h, mk9 h, mn9 h, mp10 h, mk10 h, mn10 h, mp11 h, mk11 h, mn11 h, mp12 h, mk12 h, mn12 h, mp13 h, mk13 h, mn13 h, mp14 h, mk14 h, mn14 h, mp15 h, mk15 h, mn15 h, mp16 h, mk16 h, mn16 h, mp17 h, mk17 h, mn17 h, mp18 h, mk18 h, mn18 h, mp19 h, mk19 h, mn19 h, mp20 h, mk20 h, mn20 h, mp21 h, mk21 h, mn21 h, mv0 h, mv1 h, mv2 h, mv3 h, mv4 h, mv5 h, mv6 h, mv7 h, mv8 h, mv9 h, mv10 h, mv11 h, mv12 h, mv13 h, mv14 h, mv15 h, mv16 h, mv17 h, mv18 h, mv19 h, mv20 h, mv21 h⟩
