/-! MEMORY: what the cells that the law and its callees made hold, by address. Kinds: 1 ByteFinder, 2 Letter, 3 Site, 4 Transaction, 5 SnapSites, 6 SnapSitesModel, 7 ArrayList, 8 int[], 9 boolean[], 10 Site[], 11 Object[], 12 long[], 13 the shared empty Object[] (not ours to write); 0: nothing of ours -/
abbrev Mm : Type := (Nat → Nat) × (Nat → Nat → Int32) × (Nat → Nat → Option Nat) × (Nat → Nat → Int64) × (Nat → Nat) × Nat × Nat
def mK (M : Mm) : Nat → Nat := M.1
def mV (M : Mm) : Nat → Nat → Int32 := M.2.1
def mP (M : Mm) : Nat → Nat → Option Nat := M.2.2.1
def mJ (M : Mm) : Nat → Nat → Int64 := M.2.2.2.1
def mN (M : Mm) : Nat → Nat := M.2.2.2.2.1
def mX (M : Mm) : Nat := M.2.2.2.2.2.1
def mS (M : Mm) : Nat := M.2.2.2.2.2.2
def sV (M : Mm) (a k : Nat) (v : Int32) : Mm := (mK M, va_up (mV M) a (va_up (mV M a) k v), mP M, mJ M, mN M, mX M, mS M)
def sP (M : Mm) (a k : Nat) (v : Option Nat) : Mm := (mK M, mV M, va_up (mP M) a (va_up (mP M a) k v), mJ M, mN M, mX M, mS M)
def sJ (M : Mm) (a k : Nat) (v : Int64) : Mm := (mK M, mV M, mP M, va_up (mJ M) a (va_up (mJ M a) k v), mN M, mX M, mS M)
def sR (M : Mm) (a : Nat) (r : Nat → Option Nat) : Mm := (mK M, mV M, va_up (mP M) a r, mJ M, mN M, mX M, mS M)
/-- a new cell of kind k (an array's length n), of z slots -/
def nO (M : Mm) (k n z : Nat) : Mm := (va_up (mK M) (mX M) k, va_up (mV M) (mX M) (fun _ => 0), va_up (mP M) (mX M) (fun _ => none), va_up (mJ M) (mX M) (fun _ => 0), va_up (mN M) (mX M) n, mX M + 1, mS M + z)
/-- the same cells, another count of what was made -/
def sX (M : Mm) (x z : Nat) : Mm := (mK M, mV M, mP M, mJ M, mN M, x, z)
/-- what stands fixed in a run: the tables' numbers of classes, array classes (int, boolean, Site, Object, long), the first address of ours, the shared empty array, the class object of Object[], bounds of cells and slots -/
abbrev Cx : Type := va_G × (ClassId × ClassId × ClassId × ClassId × ClassId) × (Nat × Nat × Nat × Nat × Nat)
def xD (x : Cx) : va_G := x.1
def xI (x : Cx) : ClassId := x.2.1.1
def xZ (x : Cx) : ClassId := x.2.1.2.1
def xT (x : Cx) : ClassId := x.2.1.2.2.1
def xO (x : Cx) : ClassId := x.2.1.2.2.2.1
def xJ (x : Cx) : ClassId := x.2.1.2.2.2.2
def xB (x : Cx) : Nat := x.2.2.1
def xE (x : Cx) : Nat := x.2.2.2.1
def xG (x : Cx) : Nat := x.2.2.2.2.1
def xC (x : Cx) : Nat := x.2.2.2.2.2.1
def xL (x : Cx) : Nat := x.2.2.2.2.2.2
def xA (x : Cx) : Nat → Prop := fun q => xB x ≤ q
abbrev xTy (x : Cx) : List (ClassId × FieldType) := [(xI x, .int), (xZ x, .boolean), (xT x, .object "SnapSites$Site"), (xO x, .object "java/lang/Object"), (xJ x, .long)]
/-- which slots of an object hold ints -/
def oS : Nat → List Bool
  | 1 => [true, true, true, true]
  | 2 => [true, true, true, true]
  | 3 => [true, false, false, false, true]
  | 4 => [true, true, true, true, false, true, false, true, false, false, true, true, true, true, true, true]
  | 5 => [false, false, false, false, true, true, true]
  | 6 => [true, false, false, false, true, true, false, false, false, false, false, false, false, false, false, false, false, false, false, false, false, false, false, true, true, false, true, true]
  | 7 => [true, false, true]
  | _ => []
/-- its class's place among vwCl -/
def oI : Nat → Nat
  | 1 => 1
  | 2 => 2
  | 3 => 3
  | 4 => 4
  | 5 => 5
  | 6 => 6
  | 7 => 0
  | _ => 7
def oG (M : Mm) (a i : Nat) (b : Bool) : Value := if b = true then .int (mV M a i) else va_rf (mP M a i)
def mkO (g : Nat → Bool → Value) : Nat → List Bool → List Value
  | _, [] => []
  | i, b :: bs => g i b :: mkO g (i + 1) bs
def mC (x : Cx) (M : Mm) (a : Nat) : va_E := match mK M a with
  | 8 => .inl (xI x, mN M a, .inl (mV M a))
  | 9 => .inl (xZ x, mN M a, .inl (mV M a))
  | 10 => .inl (xT x, mN M a, .inr (.inr (.inr (.inr (mP M a)))))
  | 11 => .inl (xO x, mN M a, .inr (.inr (.inr (.inr (mP M a)))))
  | 12 => .inl (xJ x, mN M a, .inr (.inl (mJ M a)))
  | 13 => .inl (xO x, mN M a, .inr (.inr (.inr (.inr (mP M a)))))
  | k => .inr (oI k, mkO (oG M a) 0 (oS k))
theorem mkO_get (g : Nat → Bool → Value) : ∀ (l : List Bool) (i k : Nat), (mkO g i l)[k]? = (l[k]?).map (g (i + k)) := by
  intro l
  induction l with
  | nil => intro i k; simp [mkO]
  | cons b bs ih =>
    intro i k
    cases k with
    | zero => simp [mkO]
    | succ k => simp [mkO, ih (i + 1) k]; congr 2; omega
theorem mkO_len (g : Nat → Bool → Value) : ∀ (l : List Bool) (i : Nat), (mkO g i l).length = l.length := by
  intro l
  induction l with
  | nil => intro i; rfl
  | cons b bs ih => intro i; simp [mkO, ih]
theorem mkO_setV (M : Mm) (a k : Nat) (v : Int32) (l : List Bool) (hb : l[k]? = some true) : (mkO (oG M a) 0 l).set k (.int v) = mkO (oG (sV M a k v) a) 0 l := by
  apply List.ext_getElem?
  intro j
  have hl : k < l.length := (List.getElem?_eq_some_iff.mp hb).1
  by_cases hj : j = k
  · subst hj
    rw [List.getElem?_set_self (by rw [mkO_len]; exact hl), mkO_get, hb]
    simp [oG, sV, mV, va_up]
  · rw [List.getElem?_set_ne (Ne.symm hj), mkO_get, mkO_get]
    congr 1
    funext b
    simp [oG, sV, mV, mP, va_up, hj]
theorem mkO_setP (M : Mm) (a k : Nat) (v : Option Nat) (l : List Bool) (hb : l[k]? = some false) : (mkO (oG M a) 0 l).set k (va_rf v) = mkO (oG (sP M a k v) a) 0 l := by
  apply List.ext_getElem?
  intro j
  have hl : k < l.length := (List.getElem?_eq_some_iff.mp hb).1
  by_cases hj : j = k
  · subst hj
    rw [List.getElem?_set_self (by rw [mkO_len]; exact hl), mkO_get, hb]
    simp [oG, sP, mP, va_up]
  · rw [List.getElem?_set_ne (Ne.symm hj), mkO_get, mkO_get]
    congr 1
    funext b
    simp [oG, sP, mV, mP, va_up, hj]
theorem mC_8 {x : Cx} {M : Mm} {a : Nat} (h : mK M a = 8) : mC x M a = .inl (xI x, mN M a, .inl (mV M a)) := by unfold mC; rw [h]; rfl
theorem mC_9 {x : Cx} {M : Mm} {a : Nat} (h : mK M a = 9) : mC x M a = .inl (xZ x, mN M a, .inl (mV M a)) := by unfold mC; rw [h]; rfl
theorem mC_10 {x : Cx} {M : Mm} {a : Nat} (h : mK M a = 10) : mC x M a = .inl (xT x, mN M a, .inr (.inr (.inr (.inr (mP M a))))) := by unfold mC; rw [h]; rfl
theorem mC_11 {x : Cx} {M : Mm} {a : Nat} (h : mK M a = 11) : mC x M a = .inl (xO x, mN M a, .inr (.inr (.inr (.inr (mP M a))))) := by unfold mC; rw [h]; rfl
theorem mC_12 {x : Cx} {M : Mm} {a : Nat} (h : mK M a = 12) : mC x M a = .inl (xJ x, mN M a, .inr (.inl (mJ M a))) := by unfold mC; rw [h]; rfl
theorem mC_13 {x : Cx} {M : Mm} {a : Nat} (h : mK M a = 13) : mC x M a = .inl (xO x, mN M a, .inr (.inr (.inr (.inr (mP M a))))) := by unfold mC; rw [h]; rfl
/-- an object's kind -/
def isO (k : Nat) : Bool := Nat.ble 1 k && Nat.ble k 7
theorem mC_o {x : Cx} {M : Mm} {a k : Nat} (h : mK M a = k) (hk : isO k = true) : mC x M a = .inr (oI k, mkO (oG M a) 0 (oS k)) := by
  have h7 : 1 ≤ k ∧ k ≤ 7 := by simpa [isO] using hk
  unfold mC
  rw [h]
  obtain ⟨h1, h2⟩ := h7
  rcases (show k = 1 ∨ k = 2 ∨ k = 3 ∨ k = 4 ∨ k = 5 ∨ k = 6 ∨ k = 7 by omega) with rfl | rfl | rfl | rfl | rfl | rfl | rfl <;> rfl
/-- other cells don't hear of a store -/
theorem mC_sV {x : Cx} {M : Mm} {a k b : Nat} {v : Int32} (h : b ≠ a) : mC x (sV M a k v) b = mC x M b := by
  have h1 : mV (sV M a k v) b = mV M b := by simp [sV, mV, va_up, h]
  have h2 : oG (sV M a k v) b = oG M b := by funext i q; simp only [oG, h1]; rfl
  unfold mC
  rw [h1, h2]
  rfl
theorem mC_sP {x : Cx} {M : Mm} {a k b : Nat} {v : Option Nat} (h : b ≠ a) : mC x (sP M a k v) b = mC x M b := by
  have h1 : mP (sP M a k v) b = mP M b := by simp [sP, mP, va_up, h]
  have h2 : oG (sP M a k v) b = oG M b := by funext i q; simp only [oG, h1]; rfl
  unfold mC
  rw [h1, h2]
  rfl
theorem mC_sJ {x : Cx} {M : Mm} {a k b : Nat} {v : Int64} (h : b ≠ a) : mC x (sJ M a k v) b = mC x M b := by
  have h1 : mJ (sJ M a k v) b = mJ M b := by simp [sJ, mJ, va_up, h]
  have h2 : oG (sJ M a k v) b = oG M b := rfl
  unfold mC
  rw [h1, h2]
  rfl
theorem mC_sR {x : Cx} {M : Mm} {a b : Nat} {r : Nat → Option Nat} (h : b ≠ a) : mC x (sR M a r) b = mC x M b := by
  have h1 : mP (sR M a r) b = mP M b := by simp [sR, mP, va_up, h]
  have h2 : oG (sR M a r) b = oG M b := by funext i q; simp only [oG, h1]; rfl
  unfold mC
  rw [h1, h2]
  rfl
theorem mC_nO {x : Cx} {M : Mm} {k n z b : Nat} (h : b ≠ mX M) : mC x (nO M k n z) b = mC x M b := by
  have h0 : mK (nO M k n z) b = mK M b := by simp [nO, mK, va_up, h]
  have h1 : mV (nO M k n z) b = mV M b := by simp [nO, mV, va_up, h]
  have h2 : mP (nO M k n z) b = mP M b := by simp [nO, mP, va_up, h]
  have h3 : mJ (nO M k n z) b = mJ M b := by simp [nO, mJ, va_up, h]
  have h4 : mN (nO M k n z) b = mN M b := by simp [nO, mN, va_up, h]
  have h5 : oG (nO M k n z) b = oG M b := by funext i q; simp only [oG, h1, h2]
  unfold mC
  rw [h0, h1, h2, h3, h4, h5]
theorem mC_sX {x : Cx} {M : Mm} {y z b : Nat} : mC x (sX M y z) b = mC x M b := rfl
/-- the slots of a heap's cells, in all -/
def hs (H : Heap) : Nat := (H.toList.map (·.slots.size)).sum
