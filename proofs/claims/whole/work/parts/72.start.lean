/-! The start: the state that the constructors leave -/
def tFin : Tb := tA tMd 12 1 1
def Wz : Ab := fun i j => if i = 0 ∧ j = 0 then 2 else 0
def Cz (e X S : Nat) : Ab := fun a k => if a = 0 ∧ k = 4 then 2 else if a = 72 ∧ (k = 0 ∨ k = 2) then e else if a = 73 ∧ k = 0 then X else if a = 73 ∧ k = 1 then S else 0
def Dz (e X S : Nat) : Ab := fun a k => if 2 ≤ a ∧ a < 22 ∧ a % 4 = 2 ∧ k = 0 then 1 else if 2 ≤ a ∧ a < 22 ∧ a % 4 = 0 ∧ k < 20 then 4294967295 else Cz e X S a k
def C0 (e X S : Nat) : Ab := U (U (U (U (Dz e X S) 60 1 0) 0 4 2) 0 5 0) 0 6 0
/-- the class's numbers, the reference's -/
def vC (a q : Nat) : Nat := if 2 ≤ a ∧ a < 22 ∧ a % 4 = 2 ∧ q = 0 then 1 else if 2 ≤ a ∧ a < 22 ∧ a % 4 = 0 ∧ q < 20 then 4294967295 else if a = 0 ∧ q = 4 then 2 else 0
def vW (i q : Nat) : Nat := if i = 0 ∧ q = 0 then 2 else if i = 3 ∧ q < 100 then 4294967295 else 0
/-- nothing stands beyond the twenty-fifth place -/
def Zr (T : Tb) : Prop := ∀ j q, 25 ≤ q → tV T j q = 0
theorem Zr.a {T : Tb} (h : Zr T) (κ n z : Nat) : Zr (tA T κ n z) := fun j q hq => by
  show (if j = tX T then 0 else tV T j q) = 0
  rw [h j q hq]; split <;> rfl
theorem Zr.p {T : Tb} (h : Zr T) (i k p : Nat) : Zr (tPt T i k p) := h
theorem Zr.v {T : Tb} (h : Zr T) (i k v : Nat) (hk : k < 25) : Zr (tSv T i k v) := fun j q hq => by
  show (if j = i ∧ q = k then v else tV T j q) = 0
  rw [if_neg (by omega), h j q hq]
theorem Zr.f {T : Tb} (h : Zr T) (i lo hi v : Nat) (hk : hi ≤ 25) : Zr (tFl T i lo hi v) := fun j q hq => by
  show (if j = i ∧ lo ≤ q ∧ q < hi then v else tV T j q) = 0
  rw [if_neg (by omega), h j q hq]
theorem zr_E : Zr tE := fun _ _ _ => rfl
theorem zr_Site {T : Tb} (h : Zr T) (n : Nat) : Zr (tSite T n) := by
  unfold tSite
  exact ((((((h.a 3 0 5).a 8 5 5).p n 1 (n + 2)).a 8 20 20).p n 2 (n + 3)).a 8 200 200).p n 3 (n + 4)
theorem zr_Ss : ∀ s, Zr (tSs s)
  | 0 => by
    unfold tSs
    exact ((zr_E.a 5 0 7).a 10 5 5).p 0 0 2
  | s + 1 => by
    unfold tSs
    exact (zr_Site (zr_Ss s) (2 + 4 * s)).p 1 s (3 + 4 * s)
theorem zr_L : Zr tL := by
  unfold tL
  have h := zr_Ss 5
  generalize tSs 5 = T at *
  exact (((((((((h.a 7 0 3).v 22 0 0 (by omega)).p 22 1 1000).p 0 1 23).a 7 0 3).v 23 0 0 (by omega)).p 23 1 1000).p 0 2 24).a 1 0 4).p 0 3 25
theorem zr_Clr {T : Tb} (h : Zr T) (s : Nat) : Zr (tClr T s) := by
  unfold tClr
  exact (((h.v s 0 1 (by omega)).v s 4 0 (by omega)).f (s + 1) 0 5 0 (by omega)).f (s + 2) 0 20 4294967295 (by omega)
theorem zr_C : ∀ s, Zr (tC s)
  | 0 => by
    unfold tC
    exact zr_L
  | s + 1 => by
    unfold tC
    exact zr_Clr (zr_C s) (2 + 4 * s)
theorem zr_Cl : Zr tCl := by
  unfold tCl
  have h := zr_C 5
  generalize tC 5 = T at *
  exact ((((h.v 23 0 1 (by omega)).v 23 2 0 (by omega)).v 0 4 2 (by omega)).v 0 5 0 (by omega)).v 0 6 0 (by omega)
theorem zr_Rw : ∀ (l : List (Nat × Nat × Nat × Nat)) (T : Tb) (p : Nat), Zr T → Zr (tRw l T p)
  | [], _, _, h => h
  | (sl, κ, c, _) :: l, T, p, h => by
    unfold tRw
    exact zr_Rw l _ (p + 1) ((h.a κ c c).p 25 sl (p + 1))
def tIn : Tb := tFl (tFl (tSv (tSv (tSv (tSv (tSv (tRw rws (tSv (tA tCl 6 0 28) 25 0 2) 26) 25 0 2) 25 4 0) 25 5 0) 25 23 0) 25 24 0) 26 0 25 0) 27 0 5 0
theorem tMd_in : tMd = tFl tIn 28 0 100 4294967295 := by unfold tMd tIn; rfl
theorem zr_In : Zr tIn := by
  unfold tIn
  have h0 := zr_Cl
  generalize tCl = T0 at *
  have h := zr_Rw rws (tSv (tA T0 6 0 28) 25 0 2) 26 ((h0.a 6 0 28).v 25 0 2 (by omega))
  generalize tRw rws (tSv (tA T0 6 0 28) 25 0 2) 26 = T at *
  exact ((((((h.v 25 0 2 (by omega)).v 25 4 0 (by omega)).v 25 5 0 (by omega)).v 25 23 0 (by omega)).v 25 24 0 (by omega)).f 26 0 25 0 (by omega)).f 27 0 5 0 (by omega)
/-- the same tables with the places written out -/
def tAi (T : Tb) (i κ n z : Nat) : Tb := (fun j => if j = i then κ else tK T j, fun j => if j = i then n else tN T j, fun j q => if j = i then 0 else tP T j q, fun j q => if j = i then 0 else tV T j q, i + 1, tS T + z)
theorem tA_i {T : Tb} {i : Nat} (h : tX T = i) (κ n z : Nat) : tA T κ n z = tAi T i κ n z := by unfold tA tAi; rw [h]
def tSite' (T : Tb) (n : Nat) : Tb := tPt (tAi (tPt (tAi (tPt (tAi (tAi T n 3 0 5) (n + 1) 8 5 5) n 1 (n + 2)) (n + 2) 8 20 20) n 2 (n + 3)) (n + 3) 8 200 200) n 3 (n + 4)
theorem tPt_X (T : Tb) (i k p : Nat) : tX (tPt T i k p) = tX T := rfl
theorem tSv_X (T : Tb) (i k p : Nat) : tX (tSv T i k p) = tX T := rfl
theorem tFl_X (T : Tb) (i lo hi v : Nat) : tX (tFl T i lo hi v) = tX T := rfl
theorem tAi_X (T : Tb) (i κ n z : Nat) : tX (tAi T i κ n z) = i + 1 := rfl
theorem tClr_X (T : Tb) (s : Nat) : tX (tClr T s) = tX T := by unfold tClr; rw [tFl_X, tFl_X, tSv_X, tSv_X]
theorem tSite_e {T : Tb} {n : Nat} (h : tX T = n) : tSite T n = tSite' T n := by
  unfold tSite tSite'
  rw [tA_i h 3 0 5, tA_i (tAi_X T n 3 0 5) 8 5 5, tA_i (i := n + 2) (show tX (tPt (tAi (tAi T n 3 0 5) (n + 1) 8 5 5) n 1 (n + 2)) = n + 2 from rfl) 8 20 20, tA_i (i := n + 3) (show tX (tPt (tAi (tPt (tAi (tAi T n 3 0 5) (n + 1) 8 5 5) n 1 (n + 2)) (n + 2) 8 20 20) n 2 (n + 3)) = n + 3 from rfl) 8 200 200]
def tSs' : Nat → Tb
  | 0 => tPt (tAi (tAi tE 0 5 0 7) 1 10 5 5) 0 0 2
  | s + 1 => tPt (tSite' (tSs' s) (2 + 4 * s)) 1 s (3 + 4 * s)
theorem tSs_e : ∀ s, tSs s = tSs' s ∧ tX (tSs' s) = 2 + 4 * s
  | 0 => ⟨by unfold tSs tSs'; rw [tA_i (T := tE) (i := 0) rfl 5 0 7, tA_i (tAi_X tE 0 5 0 7) 10 5 5], rfl⟩
  | s + 1 => by
    obtain ⟨e, hx⟩ := tSs_e s
    refine ⟨?_, ?_⟩
    · unfold tSs tSs'
      rw [e, tSite_e hx]
    · unfold tSs'
      show 2 + 4 * s + 3 + 1 = _
      omega
def tL' (T : Tb) : Tb := tPt (tAi (tPt (tPt (tSv (tAi (tPt (tPt (tSv (tAi T 22 7 0 3) 22 0 0) 22 1 1000) 0 1 23) 23 7 0 3) 23 0 0) 23 1 1000) 0 2 24) 24 1 0 4) 0 3 25
theorem tL_e : tL = tL' (tSs' 5) := by
  obtain ⟨e, hx⟩ := tSs_e 5
  unfold tL tL'
  rw [e]
  generalize tSs' 5 = T at *
  rw [tA_i (T := T) (i := 22) hx 7 0 3, tA_i (i := 23) (show tX (tPt (tPt (tSv (tAi T 22 7 0 3) 22 0 0) 22 1 1000) 0 1 23) = 23 from rfl) 7 0 3, tA_i (i := 24) (show tX (tPt (tPt (tSv (tAi (tPt (tPt (tSv (tAi T 22 7 0 3) 22 0 0) 22 1 1000) 0 1 23) 23 7 0 3) 23 0 0) 23 1 1000) 0 2 24) = 24 from rfl) 1 0 4]
def tC' : Nat → Tb
  | 0 => tL' (tSs' 5)
  | s + 1 => tClr (tC' s) (2 + 4 * s)
theorem tC_e : ∀ s, tC s = tC' s ∧ tX (tC' s) = 25
  | 0 => by
    unfold tC tC'
    exact ⟨tL_e, by unfold tL'; rw [tPt_X, tAi_X]⟩
  | s + 1 => by
    obtain ⟨e, hx⟩ := tC_e s
    unfold tC tC'
    rw [e]
    exact ⟨rfl, (tClr_X _ _).trans hx⟩
def tCl' : Tb := tSv (tSv (tSv (tSv (tSv (tC' 5) 23 0 1) 23 2 0) 0 4 2) 0 5 0) 0 6 0
theorem tCl_e : tCl = tCl' ∧ tX tCl' = 25 := by
  obtain ⟨e, hx⟩ := tC_e 5
  unfold tCl tCl'
  rw [e]
  exact ⟨rfl, by rw [tSv_X, tSv_X, tSv_X, tSv_X, tSv_X]; exact hx⟩
def tRw' : List (Nat × Nat × Nat × Nat) → Tb → Nat → Tb
  | [], T, _ => T
  | (sl, κ, c, _) :: l, T, p => tRw' l (tPt (tAi T p κ c c) 25 sl (p + 1)) (p + 1)
theorem tRw_e : ∀ (l : List (Nat × Nat × Nat × Nat)) (T : Tb) (p : Nat), tX T = p → tRw l T p = tRw' l T p ∧ tX (tRw' l T p) = p + l.length
  | [], T, p, h => ⟨rfl, h⟩
  | (sl, κ, c, w) :: l, T, p, h => by
    obtain ⟨e, hx⟩ := tRw_e l (tPt (tAi T p κ c c) 25 sl (p + 1)) (p + 1) rfl
    unfold tRw tRw'
    rw [tA_i h, e, hx, List.length_cons]
    exact ⟨rfl, by omega⟩
def tMd' (T : Tb) : Tb := tFl (tFl (tFl (tSv (tSv (tSv (tSv (tSv (tRw' rws (tSv (tAi T 25 6 0 28) 25 0 2) 26) 25 0 2) 25 4 0) 25 5 0) 25 23 0) 25 24 0) 26 0 25 0) 27 0 5 0) 28 0 100 4294967295
def tFin' : Tb := tAi (tMd' tCl') 47 12 1 1
theorem tFin_e : tFin = tFin' := by
  obtain ⟨e, hx⟩ := tCl_e
  unfold tFin tFin' tMd tMd'
  rw [e]
  generalize tCl' = T at *
  rw [tA_i (T := T) (i := 25) hx]
  obtain ⟨e2, hx2⟩ := tRw_e rws (tSv (tAi T 25 6 0 28) 25 0 2) 26 rfl
  rw [e2]
  generalize tRw' rws (tSv (tAi T 25 6 0 28) 25 0 2) 26 = T2 at *
  refine tA_i (i := 47) ?_ 12 1 1
  rw [tFl_X, tFl_X, tFl_X, tSv_X, tSv_X, tSv_X, tSv_X, tSv_X, hx2]
  rfl
theorem spt_k {i q : Nat} (h : spt i q ≠ 0) : i < 26 ∧ q < 26 := by
  revert h
  unfold spt
  split <;> intro h <;> first | omega | exact absurd rfl h
