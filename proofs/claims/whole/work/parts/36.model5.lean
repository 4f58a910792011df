def t0 (W : Ab) : Ab := U W 0 27 0
theorem Bd.t0 {W : Ab} (h : Bd W) : Bd (t0 W) := h.th (by omega) 0
/-- letters to those of whom p holds -/
noncomputable def sdF (W : Ab) (kd fr t : Nat) (p : Nat → Prop) : Nat → Ab
  | 0 => W
  | s + 1 => @ite _ (p s) (Classical.propDecidable _) (wSend (sdF W kd fr t p s) kd fr s t) (sdF W kd fr t p s)
theorem sdF_t {W : Ab} {kd fr t : Nat} {p : Nat → Prop} {s : Nat} (h : p s) : sdF W kd fr t p (s + 1) = wSend (sdF W kd fr t p s) kd fr s t := if_pos h
theorem sdF_f {W : Ab} {kd fr t : Nat} {p : Nat → Prop} {s : Nat} (h : ¬ p s) : sdF W kd fr t p (s + 1) = sdF W kd fr t p s := if_neg h
theorem sdF_r (W : Ab) (kd fr t : Nat) (p : Nat → Prop) {i : Nat} (hi : i ≠ 0 ∧ i ≠ 20) (j : Nat) : ∀ n, sdF W kd fr t p n i j = W i j
  | 0 => rfl
  | n + 1 => by
    by_cases c : p n
    · rw [sdF_t c, wSend_r _ _ _ _ _ hi]; exact sdF_r W kd fr t p hi j n
    · rw [sdF_f c]; exact sdF_r W kd fr t p hi j n
theorem sdF_k (W : Ab) (kd fr t : Nat) (p : Nat → Prop) {j : Nat} (hj : j ≠ 23 ∧ j ≠ 24) : ∀ n, sdF W kd fr t p n 0 j = W 0 j
  | 0 => rfl
  | n + 1 => by
    by_cases c : p n
    · rw [sdF_t c, wSend_k _ _ _ _ _ hj]; exact sdF_k W kd fr t p hj n
    · rw [sdF_f c]; exact sdF_k W kd fr t p hj n
theorem wSend_24 (W : Ab) (kd fr to t : Nat) : wSend W kd fr to t 0 24 = W 0 24 + 1 := by
  unfold wSend; split <;> simp (disch := omega) only [U_r, U_k, U_s]
theorem sdF_24 (W : Ab) (kd fr t : Nat) (p : Nat → Prop) : ∀ n, sdF W kd fr t p n 0 24 = W 0 24 + ct p n
  | 0 => rfl
  | n + 1 => by
    by_cases c : p n
    · rw [sdF_t c, wSend_24, sdF_24 W kd fr t p n]
      show _ = W 0 24 + (ct p n + bp (p n))
      rw [bp_t c]; omega
    · rw [sdF_f c, sdF_24 W kd fr t p n]
      show _ = W 0 24 + (ct p n + bp (p n))
      rw [bp_f c]; rfl
theorem bd_sdF {W : Ab} (h : Bd W) {kd fr t : Nat} (hk : kd < 6) (hf : fr < 5) (ht : t < 200) (p : Nat → Prop) : ∀ n, n ≤ 5 → Bd (sdF W kd fr t p n)
  | 0, _ => h
  | n + 1, hn => by
    by_cases c : p n
    · rw [sdF_t c]; exact (bd_sdF h hk hf ht p n (by omega)).send (by omega) (by omega) (by omega) (by omega)
    · rw [sdF_f c]; exact bd_sdF h hk hf ht p n (by omega)
theorem tlF_sd (W : Ab) (fr t : Nat) : ∀ n, tlF W fr t n = sdF W 5 fr t (fun s => s ≠ fr) n
  | 0 => rfl
  | n + 1 => by
    by_cases c : n = fr
    · rw [sdF_f (fun z => z c), ← tlF_sd W fr t n, tlF, if_pos c]
    · rw [sdF_t (p := fun s => s ≠ fr) c, ← tlF_sd W fr t n, tlF, if_neg c]
theorem skF_sd (W : Ab) (kd fr t : Nat) : ∀ n, skF W kd fr t n = sdF W kd fr t (fun s => W 11 (5 * t + s) ≠ 0) n
  | 0 => rfl
  | n + 1 => by
    by_cases c : W 11 (5 * t + n) = 0
    · rw [sdF_f (fun z => z c), ← skF_sd W kd fr t n, skF, if_pos c]
    · rw [sdF_t (p := fun s => W 11 (5 * t + s) ≠ 0) c, ← skF_sd W kd fr t n, skF, if_neg c]
def kdA (W : Ab) (t : Nat) : Nat := if W 5 t = 1 then 1 else if W 5 t = 2 then 5 else 4
def pA (W : Ab) (t s : Nat) : Prop := (W 5 t = 1 ∧ W 11 (5 * t + s) ≠ 0 ∧ W 12 (5 * t + s) = 0) ∨ (W 5 t = 2 ∧ W 8 (5 * t + s) = 0) ∨ (2 < W 5 t ∧ W 18 t ≠ 0 ∧ W 11 (5 * t + s) ≠ 0)
noncomputable def wAgain (W : Ab) (t : Nat) : Ab := sdF W (kdA W t) (W 4 t) t (pA W t) (W 0 0)
def chg (W : Ab) (t cell : Nat) : Nat := sm (fun j => if W 15 (20 * t + j) = cell then W 16 (20 * t + j) else 0) (W 17 t)
noncomputable def cnS (W : Ab) (t cell : Nat) : Nat := sm (fun u => bp (u = t ∨ sees W t u) * chg W u cell) (W 0 5)
/-- taking a letter out -/
def tkF (W : Ab) (i : Nat) : Nat → Ab
  | 0 => W
  | m + 1 => U (tkF W i m) 20 (4 * i + m) (W 20 (4 * i + m + 4))
def wTake (W : Ab) (i : Nat) : Ab := U (tkF W i (4 * (W 0 23 - 1 - i))) 0 23 (W 0 23 - 1)
theorem tkF_r (W : Ab) (i0 : Nat) {i : Nat} (hi : i ≠ 20) (j : Nat) : ∀ m, tkF W i0 m i j = W i j
  | 0 => rfl
  | m + 1 => by unfold tkF; rw [U_r _ hi]; exact tkF_r W i0 hi j m
theorem tkF_hi (W : Ab) (i : Nat) {j : Nat} : ∀ m, 4 * i + m ≤ j → tkF W i m 20 j = W 20 j
  | 0, _ => rfl
  | m + 1, h => by unfold tkF; rw [U_k _ _ _ (by omega)]; exact tkF_hi W i m (by omega)
theorem tkF_lo (W : Ab) (i : Nat) {j : Nat} : ∀ m, (j < 4 * i → tkF W i m 20 j = W 20 j) ∧ (4 * i ≤ j → j < 4 * i + m → tkF W i m 20 j = W 20 (j + 4))
  | 0 => ⟨fun _ => rfl, fun _ _ => by omega⟩
  | m + 1 => by
    have ih := tkF_lo W i (j := j) m
    refine ⟨fun h => ?_, fun h1 h2 => ?_⟩
    · unfold tkF; rw [U_k _ _ _ (by omega)]; exact ih.1 h
    · unfold tkF
      by_cases c : j = 4 * i + m
      · subst c; rw [U_s]
      · rw [U_k _ _ _ c]; exact ih.2 h1 (by omega)
theorem bd_tkF {W : Ab} (h : Bd W) (i : Nat) : ∀ m, Bd (tkF W i m)
  | 0 => h
  | m + 1 => (bd_tkF h i m).u (by omega) _ (h.r (by omega) _)
theorem bd_take {W : Ab} (h : Bd W) (i : Nat) : Bd (wTake W i) := by
  have hh := bd_tkF h i (4 * (W 0 23 - 1 - i))
  unfold wTake
  refine ⟨?_, fun a b ha => ?_⟩
  · simp (disch := omega) only [U_r, U_k, U_s, tkF_r]
    have := h.1
    omega
  · rw [U_r _ (by omega)]; exact hh.2 a b ha
/-- what may be applied next -/
def ready (W : Ab) (t s : Nat) : Prop := al (W 9 (5 * t + s) ≠ 0 ∧ W 6 t = W 1 (5 * s + W 4 t) + 1) (fun s' => W 7 (5 * t + s') ≤ W 1 (5 * s + s')) (W 0 0)
def Lst (W : Ab) (s j f : Nat) : Prop := (f = 4294967295 ∧ ∀ t, j ≤ t → t < W 0 5 → ¬ ready W t s) ∨ (j ≤ f ∧ f < W 0 5 ∧ ready W f s ∧ ∀ t, j ≤ t → t < f → ¬ ready W t s)
theorem Lst.yes {W : Ab} {s j : Nat} (hj : j < W 0 5) (hr : ready W j s) : Lst W s j j := Or.inr ⟨Nat.le_refl _, hj, hr, fun t _ _ => by omega⟩
theorem Lst.no {W : Ab} {s j f : Nat} (h : Lst W s (j + 1) f) (hr : ¬ ready W j s) : Lst W s j f := by
  rcases h with ⟨h1, h2⟩ | ⟨h1, h2, h3, h4⟩
  · refine Or.inl ⟨h1, fun t ht htc => ?_⟩
    rcases (show t = j ∨ j + 1 ≤ t by omega) with rfl | q
    · exact hr
    · exact h2 t q htc
  · refine Or.inr ⟨by omega, h2, h3, fun t ht htc => ?_⟩
    rcases (show t = j ∨ j + 1 ≤ t by omega) with rfl | q
    · exact hr
    · exact h4 t q htc
theorem lst_ex (W : Ab) (s : Nat) : ∀ m j, m + j = W 0 5 → ∃ f, Lst W s j f
  | 0, j, h => ⟨4294967295, Or.inl ⟨rfl, fun t _ _ => by omega⟩⟩
  | m + 1, j, h => by
    by_cases c : ready W j s
    · exact ⟨j, Lst.yes (by omega) c⟩
    · obtain ⟨f, hf⟩ := lst_ex W s m (j + 1) (by omega)
      exact ⟨f, hf.no c⟩
noncomputable def lst (W : Ab) (s : Nat) : Nat := Classical.choose (lst_ex W s (W 0 5) 0 rfl)
theorem lst_spec (W : Ab) (s : Nat) : Lst W s 0 (lst W s) := Classical.choose_spec (lst_ex W s (W 0 5) 0 rfl)
theorem Lst.uniq {W : Ab} {s f g : Nat} (hc : W 0 5 ≤ 200) (h : Lst W s 0 f) (h' : Lst W s 0 g) : f = g := by
  rcases h with ⟨h1, h2⟩ | ⟨-, h2, h3, h4⟩
  · rcases h' with ⟨k1, k2⟩ | ⟨-, k2, k3, k4⟩
    · omega
    · exact absurd k3 (h2 g (by omega) k2)
  · rcases h' with ⟨k1, k2⟩ | ⟨-, k2, k3, k4⟩
    · exact absurd h3 (k2 f (by omega) h2)
    · rcases Nat.lt_trichotomy f g with q | q | q
      · exact absurd h3 (k4 f (by omega) q)
      · exact q
      · exact absurd k3 (h4 g (by omega) q)
noncomputable def stl (s : Nat) : Nat → Ab → Nat → Ab × Nat
  | 0, W, d => (W, d)
  | n + 1, W, d => if lst W s = 4294967295 then (W, d) else stl s n (wApp W (lst W s) s) (d + 1)
noncomputable def kp (W : Ab) (s : Nat) : Nat := ct (fun t => W 9 (5 * t + s) ≠ 0) (W 0 5)
theorem ct_congr {p q : Nat → Prop} : ∀ n, (∀ i, i < n → (p i ↔ q i)) → ct p n = ct q n
  | 0, _ => rfl
  | n + 1, h => by
    show ct p n + bp (p n) = ct q n + bp (q n)
    rw [ct_congr n (fun i hi => h i (by omega)), bp_iff (h n (by omega))]
theorem ct_del {p q : Nat → Prop} {f : Nat} (hp : p f) (hq : ¬ q f) : ∀ n, f < n → (∀ i, i < n → i ≠ f → (p i ↔ q i)) → ct q n + 1 = ct p n
  | 0, h, _ => by omega
  | n + 1, h, hh => by
    show ct q n + bp (q n) + 1 = ct p n + bp (p n)
    by_cases c : f = n
    · subst c
      rw [bp_t hp, bp_f hq, ct_congr f (fun i hi => hh i (by omega) (by omega))]
    · rw [bp_iff (hh n (by omega) (fun z => c z.symm)), ← ct_del hp hq n (by omega) (fun i hi hne => hh i (by omega) hne)]
      omega
theorem ct_pos {p : Nat → Prop} {f : Nat} (hp : p f) : ∀ n, f < n → 0 < ct p n
  | 0, h => by omega
  | n + 1, h => by
    show 0 < ct p n + bp (p n)
    by_cases c : f = n
    · subst c; rw [bp_t hp]; omega
    · have := ct_pos hp n (by omega); omega
theorem wApp_9 (W : Ab) (t s j : Nat) : wApp W t s 9 j = if j = 5 * t + s then 0 else W 9 j := by
  unfold wApp
  rw [unl_r _ _ _ (by omega)]
  by_cases c : j = 5 * t + s
  · rw [if_pos c, c, U_s]
  · rw [if_neg c, U_k _ _ _ c]; simp (disch := omega) only [U_r]
theorem kp_app {W : Ab} {f s : Nat} (hs : s < 5) (hf : f < W 0 5) (hr : ready W f s) : kp (wApp W f s) s + 1 = kp W s := by
  unfold kp
  rw [wApp_0 _ _ _ (by omega)]
  have hz : wApp W f s 9 (5 * f + s) = 0 := by rw [wApp_9, if_pos rfl]
  refine ct_del (p := fun t => W 9 (5 * t + s) ≠ 0) (q := fun t => wApp W f s 9 (5 * t + s) ≠ 0) (f := f) hr.1.1 (fun z => z hz) _ hf (fun i hi hne => ?_)
  show W 9 (5 * i + s) ≠ 0 ↔ wApp W f s 9 (5 * i + s) ≠ 0
  rw [wApp_9, if_neg (by omega)]
theorem i_wrap {j : Nat} (h : 1 ≤ j) : i32 (j + 4294967295) = i32 (j - 1) := by
  apply Int32.toBitVec_inj.mp
  rw [i_bv, i_bv]
  apply BitVec.eq_of_toNat_eq
  simp only [BitVec.toNat_ofNat]
  omega
theorem i_pred (a : Nat) : i32 a - i32 1 = i32 (a + 4294967295) := by
  apply Int32.toBitVec_inj.mp
  rw [Int32.toBitVec_sub, i_bv, i_bv, i_bv]
  apply BitVec.eq_of_toNat_eq
  simp only [BitVec.toNat_sub, BitVec.toNat_ofNat]
  omega
section
variable {x : Cx} {k B : Nat} {C W : Ab} {M : Mm}
theorem m_abort_iae (h : St x B C W M) (hb : Bd W) {t : Nat} (ht : t < 4294967296) (hn : ¬ t < W 0 5) : fX5_abort x k (B + 25) (i32 t) M = some ((), sV M (B + 25) 27 (i32 1)) := by
  have ei := s_isOne (k := k) h ht hb.1.2.2.1
  have f0 := s_fails1 (k := k) h 1
  unfold fX5_abort
  repeat (first
    | (with_reducible refine e_l1 ?_)
    | ((with_reducible refine e_k ?_ (mkM h) ?_); focus rfl)
    | ((with_reducible refine e_p ?_ (mp1 h) ?_); focus rfl)
    | ((with_reducible refine e_p ?_ (mp2 h) ?_); focus rfl)
    | ((with_reducible refine e_p ?_ (mp3 h) ?_); focus rfl)
    | ((with_reducible refine e_p ?_ (mp4 h) ?_); focus rfl)
    | ((with_reducible refine e_p ?_ (mp5 h) ?_); focus rfl)
    | ((with_reducible refine e_p ?_ (mp6 h) ?_); focus rfl)
    | ((with_reducible refine e_p ?_ (mp7 h) ?_); focus rfl)
    | ((with_reducible refine e_p ?_ (mp8 h) ?_); focus rfl)
    | ((with_reducible refine e_p ?_ (mp9 h) ?_); focus rfl)
    | ((with_reducible refine e_p ?_ (mp10 h) ?_); focus rfl)
    | ((with_reducible refine e_p ?_ (mp11 h) ?_); focus rfl)
    | ((with_reducible refine e_p ?_ (mp12 h) ?_); focus rfl)
    | ((with_reducible refine e_p ?_ (mp13 h) ?_); focus rfl)
    | ((with_reducible refine e_p ?_ (mp14 h) ?_); focus rfl)
    | ((with_reducible refine e_p ?_ (mp15 h) ?_); focus rfl)
    | ((with_reducible refine e_p ?_ (mp16 h) ?_); focus rfl)
    | ((with_reducible refine e_p ?_ (mp17 h) ?_); focus rfl)
    | ((with_reducible refine e_p ?_ (mp18 h) ?_); focus rfl)
    | ((with_reducible refine e_p ?_ (mp19 h) ?_); focus rfl)
    | ((with_reducible refine e_p ?_ (mp20 h) ?_); focus rfl)
    | ((with_reducible refine e_p ?_ (mp21 h) ?_); focus rfl)
    | ((with_reducible refine e_o2 ?_ ei ?_); focus (first | with_reducible rfl | (simp (disch := omega) only [b_all, sV_all, ↓reduceIte, Nat.reduceEqDiff, Nat.reduceLT, Nat.reduceLeDiff, Nat.reduceAdd, Nat.reduceMul, Nat.reduceSub, i_lit, eq_self, and_true, true_and, and_self, not_true_eq_false, not_false_eq_true, or_true, true_or, or_false, false_or, false_and, and_false, reduceCtorEq, Nat.add_left_cancel_iff, Nat.add_zero, Nat.zero_add, md_all h]; done)))
    | ((with_reducible refine e_o2 ?_ f0 ?_); focus (first | with_reducible rfl | (simp (disch := omega) only [b_all, sV_all, ↓reduceIte, Nat.reduceEqDiff, Nat.reduceLT, Nat.reduceLeDiff, Nat.reduceAdd, Nat.reduceMul, Nat.reduceSub, i_lit, eq_self, and_true, true_and, and_self, not_true_eq_false, not_false_eq_true, or_true, true_or, or_false, false_or, false_and, and_false, reduceCtorEq, Nat.add_left_cancel_iff, Nat.add_zero, Nat.zero_add, md_all h]; done)))
    | ((with_reducible refine e_ip ?_ ?_); focus (simp (disch := omega) only [b_all, sV_all, ↓reduceIte, Nat.reduceEqDiff, Nat.reduceLT, Nat.reduceLeDiff, Nat.reduceAdd, Nat.reduceMul, Nat.reduceSub, i_lit, eq_self, and_true, true_and, and_self, not_true_eq_false, not_false_eq_true, or_true, true_or, or_false, false_or, false_and, and_false, reduceCtorEq, Nat.add_left_cancel_iff, Nat.add_zero, Nat.zero_add, md_all h]; done))
    | ((with_reducible refine e_in ?_ ?_); focus (simp (disch := omega) only [b_all, sV_all, ↓reduceIte, Nat.reduceEqDiff, Nat.reduceLT, Nat.reduceLeDiff, Nat.reduceAdd, Nat.reduceMul, Nat.reduceSub, i_lit, eq_self, and_true, true_and, and_self, not_true_eq_false, not_false_eq_true, or_true, true_or, or_false, false_or, false_and, and_false, reduceCtorEq, Nat.add_left_cancel_iff, Nat.add_zero, Nat.zero_add, md_all h]; done))
    | unfold fX5_abort_14
    | unfold fX5_abort_43
    | fail)
  first | with_reducible rfl | simp (disch := omega) only [b_all, sV_all, ↓reduceIte, Nat.reduceEqDiff, Nat.reduceLT, Nat.reduceLeDiff, Nat.reduceAdd, Nat.reduceMul, Nat.reduceSub, i_lit, eq_self, and_true, true_and, and_self, not_true_eq_false, not_false_eq_true, or_true, true_or, or_false, false_or, false_and, and_false, reduceCtorEq, Nat.add_left_cancel_iff, Nat.add_zero, Nat.zero_add, md_all h]
theorem m_abort_ise (h : St x B C W M) (hb : Bd W) {t : Nat} (ht : t < W 0 5) (hn : W 5 t ≠ 0) : fX5_abort x k (B + 25) (i32 t) M = some ((), sV (sV M (B + 25) 27 (i32 0)) (B + 25) 27 (i32 2)) := by
  have h0 := hb.1
  have ei := s_isOne (k := k) h (a := t) (by omega) hb.1.2.2.1
  have f0 := s_fails0 (k := k) h 1
  have f1 := s_fails1 (k := k) (su0 h 27 0) 2
  have h5 : W 5 t < 5 := hb.r (by omega) t
  unfold fX5_abort
  repeat (first
    | (with_reducible refine e_l1 ?_)
    | ((with_reducible refine e_k ?_ (mkM h) ?_); focus rfl)
    | ((with_reducible refine e_p ?_ (mp1 h) ?_); focus rfl)
    | ((with_reducible refine e_p ?_ (mp2 h) ?_); focus rfl)
    | ((with_reducible refine e_p ?_ (mp3 h) ?_); focus rfl)
    | ((with_reducible refine e_p ?_ (mp4 h) ?_); focus rfl)
    | ((with_reducible refine e_p ?_ (mp5 h) ?_); focus rfl)
    | ((with_reducible refine e_p ?_ (mp6 h) ?_); focus rfl)
    | ((with_reducible refine e_p ?_ (mp7 h) ?_); focus rfl)
    | ((with_reducible refine e_p ?_ (mp8 h) ?_); focus rfl)
    | ((with_reducible refine e_p ?_ (mp9 h) ?_); focus rfl)
    | ((with_reducible refine e_p ?_ (mp10 h) ?_); focus rfl)
    | ((with_reducible refine e_p ?_ (mp11 h) ?_); focus rfl)
    | ((with_reducible refine e_p ?_ (mp12 h) ?_); focus rfl)
    | ((with_reducible refine e_p ?_ (mp13 h) ?_); focus rfl)
    | ((with_reducible refine e_p ?_ (mp14 h) ?_); focus rfl)
    | ((with_reducible refine e_p ?_ (mp15 h) ?_); focus rfl)
    | ((with_reducible refine e_p ?_ (mp16 h) ?_); focus rfl)
    | ((with_reducible refine e_p ?_ (mp17 h) ?_); focus rfl)
    | ((with_reducible refine e_p ?_ (mp18 h) ?_); focus rfl)
    | ((with_reducible refine e_p ?_ (mp19 h) ?_); focus rfl)
    | ((with_reducible refine e_p ?_ (mp20 h) ?_); focus rfl)
    | ((with_reducible refine e_p ?_ (mp21 h) ?_); focus rfl)
    | ((with_reducible refine e_o2 ?_ ei ?_); focus (first | with_reducible rfl | (simp (disch := omega) only [b_all, sV_all, ↓reduceIte, Nat.reduceEqDiff, Nat.reduceLT, Nat.reduceLeDiff, Nat.reduceAdd, Nat.reduceMul, Nat.reduceSub, i_lit, eq_self, and_true, true_and, and_self, not_true_eq_false, not_false_eq_true, or_true, true_or, or_false, false_or, false_and, and_false, reduceCtorEq, Nat.add_left_cancel_iff, Nat.add_zero, Nat.zero_add, md_all h]; done)))
    | ((with_reducible refine e_o2 ?_ f0 ?_); focus (first | with_reducible rfl | (simp (disch := omega) only [b_all, sV_all, ↓reduceIte, Nat.reduceEqDiff, Nat.reduceLT, Nat.reduceLeDiff, Nat.reduceAdd, Nat.reduceMul, Nat.reduceSub, i_lit, eq_self, and_true, true_and, and_self, not_true_eq_false, not_false_eq_true, or_true, true_or, or_false, false_or, false_and, and_false, reduceCtorEq, Nat.add_left_cancel_iff, Nat.add_zero, Nat.zero_add, md_all h]; done)))
    | ((with_reducible refine e_o2 ?_ f1 ?_); focus (first | with_reducible rfl | (simp (disch := omega) only [b_all, sV_all, ↓reduceIte, Nat.reduceEqDiff, Nat.reduceLT, Nat.reduceLeDiff, Nat.reduceAdd, Nat.reduceMul, Nat.reduceSub, i_lit, eq_self, and_true, true_and, and_self, not_true_eq_false, not_false_eq_true, or_true, true_or, or_false, false_or, false_and, and_false, reduceCtorEq, Nat.add_left_cancel_iff, Nat.add_zero, Nat.zero_add, md_all h]; done)))
    | ((with_reducible refine e_ip ?_ ?_); focus (simp (disch := omega) only [b_all, sV_all, ↓reduceIte, Nat.reduceEqDiff, Nat.reduceLT, Nat.reduceLeDiff, Nat.reduceAdd, Nat.reduceMul, Nat.reduceSub, i_lit, eq_self, and_true, true_and, and_self, not_true_eq_false, not_false_eq_true, or_true, true_or, or_false, false_or, false_and, and_false, reduceCtorEq, Nat.add_left_cancel_iff, Nat.add_zero, Nat.zero_add, md_all h]; done))
    | ((with_reducible refine e_in ?_ ?_); focus (simp (disch := omega) only [b_all, sV_all, ↓reduceIte, Nat.reduceEqDiff, Nat.reduceLT, Nat.reduceLeDiff, Nat.reduceAdd, Nat.reduceMul, Nat.reduceSub, i_lit, eq_self, and_true, true_and, and_self, not_true_eq_false, not_false_eq_true, or_true, true_or, or_false, false_or, false_and, and_false, reduceCtorEq, Nat.add_left_cancel_iff, Nat.add_zero, Nat.zero_add, md_all h]; done))
    | unfold fX5_abort_14
    | unfold fX5_abort_36
    | unfold fX5_abort_43
    | fail)
  first | with_reducible rfl | simp (disch := omega) only [b_all, sV_all, ↓reduceIte, Nat.reduceEqDiff, Nat.reduceLT, Nat.reduceLeDiff, Nat.reduceAdd, Nat.reduceMul, Nat.reduceSub, i_lit, eq_self, and_true, true_and, and_self, not_true_eq_false, not_false_eq_true, or_true, true_or, or_false, false_or, false_and, and_false, reduceCtorEq, Nat.add_left_cancel_iff, Nat.add_zero, Nat.zero_add, md_all h]
theorem m_abort_ok (h : St x B C W M) (hb : Bd W) {t : Nat} (ht : t < W 0 5) (hn : W 5 t = 0) : ∃ M', fX5_abort x k (B + 25) (i32 t) M = some ((), M') ∧ St x B C (U (t00 W) 5 t 3) M' := by
  have h0 := hb.1
  have ei := s_isOne (k := k) h (a := t) (by omega) hb.1.2.2.1
  have f0 := s_fails0 (k := k) h 1
  have f1 := s_fails0 (k := k) (su0 h 27 0) 2
  refine ⟨_, ?_, show St x B C (U (t00 W) 5 t 3) _ from su5 (su0 (su0 h 27 0) 27 0) t 3⟩
  unfold fX5_abort
  repeat (first
    | (with_reducible refine e_l1 ?_)
    | ((with_reducible refine e_k ?_ (mkM h) ?_); focus rfl)
    | ((with_reducible refine e_p ?_ (mp1 h) ?_); focus rfl)
    | ((with_reducible refine e_p ?_ (mp2 h) ?_); focus rfl)
    | ((with_reducible refine e_p ?_ (mp3 h) ?_); focus rfl)
    | ((with_reducible refine e_p ?_ (mp4 h) ?_); focus rfl)
    | ((with_reducible refine e_p ?_ (mp5 h) ?_); focus rfl)
    | ((with_reducible refine e_p ?_ (mp6 h) ?_); focus rfl)
    | ((with_reducible refine e_p ?_ (mp7 h) ?_); focus rfl)
    | ((with_reducible refine e_p ?_ (mp8 h) ?_); focus rfl)
    | ((with_reducible refine e_p ?_ (mp9 h) ?_); focus rfl)
    | ((with_reducible refine e_p ?_ (mp10 h) ?_); focus rfl)
    | ((with_reducible refine e_p ?_ (mp11 h) ?_); focus rfl)
    | ((with_reducible refine e_p ?_ (mp12 h) ?_); focus rfl)
    | ((with_reducible refine e_p ?_ (mp13 h) ?_); focus rfl)
    | ((with_reducible refine e_p ?_ (mp14 h) ?_); focus rfl)
    | ((with_reducible refine e_p ?_ (mp15 h) ?_); focus rfl)
    | ((with_reducible refine e_p ?_ (mp16 h) ?_); focus rfl)
    | ((with_reducible refine e_p ?_ (mp17 h) ?_); focus rfl)
    | ((with_reducible refine e_p ?_ (mp18 h) ?_); focus rfl)
    | ((with_reducible refine e_p ?_ (mp19 h) ?_); focus rfl)
    | ((with_reducible refine e_p ?_ (mp20 h) ?_); focus rfl)
    | ((with_reducible refine e_p ?_ (mp21 h) ?_); focus rfl)
    | ((with_reducible refine e_o2 ?_ ei ?_); focus (first | with_reducible rfl | (simp (disch := omega) only [b_all, sV_all, ↓reduceIte, Nat.reduceEqDiff, Nat.reduceLT, Nat.reduceLeDiff, Nat.reduceAdd, Nat.reduceMul, Nat.reduceSub, i_lit, eq_self, and_true, true_and, and_self, not_true_eq_false, not_false_eq_true, or_true, true_or, or_false, false_or, false_and, and_false, reduceCtorEq, Nat.add_left_cancel_iff, Nat.add_zero, Nat.zero_add, md_all h]; done)))
    | ((with_reducible refine e_o2 ?_ f0 ?_); focus (first | with_reducible rfl | (simp (disch := omega) only [b_all, sV_all, ↓reduceIte, Nat.reduceEqDiff, Nat.reduceLT, Nat.reduceLeDiff, Nat.reduceAdd, Nat.reduceMul, Nat.reduceSub, i_lit, eq_self, and_true, true_and, and_self, not_true_eq_false, not_false_eq_true, or_true, true_or, or_false, false_or, false_and, and_false, reduceCtorEq, Nat.add_left_cancel_iff, Nat.add_zero, Nat.zero_add, md_all h]; done)))
    | ((with_reducible refine e_o2 ?_ f1 ?_); focus (first | with_reducible rfl | (simp (disch := omega) only [b_all, sV_all, ↓reduceIte, Nat.reduceEqDiff, Nat.reduceLT, Nat.reduceLeDiff, Nat.reduceAdd, Nat.reduceMul, Nat.reduceSub, i_lit, eq_self, and_true, true_and, and_self, not_true_eq_false, not_false_eq_true, or_true, true_or, or_false, false_or, false_and, and_false, reduceCtorEq, Nat.add_left_cancel_iff, Nat.add_zero, Nat.zero_add, md_all h]; done)))
    | ((with_reducible refine e_ip ?_ ?_); focus (simp (disch := omega) only [b_all, sV_all, ↓reduceIte, Nat.reduceEqDiff, Nat.reduceLT, Nat.reduceLeDiff, Nat.reduceAdd, Nat.reduceMul, Nat.reduceSub, i_lit, eq_self, and_true, true_and, and_self, not_true_eq_false, not_false_eq_true, or_true, true_or, or_false, false_or, false_and, and_false, reduceCtorEq, Nat.add_left_cancel_iff, Nat.add_zero, Nat.zero_add, md_all h]; done))
    | ((with_reducible refine e_in ?_ ?_); focus (simp (disch := omega) only [b_all, sV_all, ↓reduceIte, Nat.reduceEqDiff, Nat.reduceLT, Nat.reduceLeDiff, Nat.reduceAdd, Nat.reduceMul, Nat.reduceSub, i_lit, eq_self, and_true, true_and, and_self, not_true_eq_false, not_false_eq_true, or_true, true_or, or_false, false_or, false_and, and_false, reduceCtorEq, Nat.add_left_cancel_iff, Nat.add_zero, Nat.zero_add, md_all h]; done))
    | unfold fX5_abort_14
    | unfold fX5_abort_36
    | fail)
  first | with_reducible rfl | simp (disch := omega) only [b_all, sV_all, ↓reduceIte, Nat.reduceEqDiff, Nat.reduceLT, Nat.reduceLeDiff, Nat.reduceAdd, Nat.reduceMul, Nat.reduceSub, i_lit, eq_self, and_true, true_and, and_self, not_true_eq_false, not_false_eq_true, or_true, true_or, or_false, false_or, false_and, and_false, reduceCtorEq, Nat.add_left_cancel_iff, Nat.add_zero, Nat.zero_add, md_all h]
theorem m_write_iae (h : St x B C W M) (hb : Bd W) {t o v : Nat} (ht : t < 4294967296) (ho : o < 4294967296) (hn : ¬ (t < W 0 5 ∧ o < 20)) : fX5_write x k (B + 25) (i32 t) (i32 o) (i32 v) M = some (i32 0, sV M (B + 25) 27 (i32 1)) := by
  have ei := s_isOne (k := k) h ht hb.1.2.2.1
  have ej := s_isObject (k := k) (x := x) (M := M) ho
  have f0 := s_fails1 (k := k) h 1
  by_cases c : t < W 0 5
  · unfold fX5_write
    repeat (first
      | (with_reducible refine e_l1 ?_)
      | ((with_reducible refine e_k ?_ (mkM h) ?_); focus rfl)
      | ((with_reducible refine e_p ?_ (mp1 h) ?_); focus rfl)
      | ((with_reducible refine e_p ?_ (mp2 h) ?_); focus rfl)
      | ((with_reducible refine e_p ?_ (mp3 h) ?_); focus rfl)
      | ((with_reducible refine e_p ?_ (mp4 h) ?_); focus rfl)
      | ((with_reducible refine e_p ?_ (mp5 h) ?_); focus rfl)
      | ((with_reducible refine e_p ?_ (mp6 h) ?_); focus rfl)
      | ((with_reducible refine e_p ?_ (mp7 h) ?_); focus rfl)
      | ((with_reducible refine e_p ?_ (mp8 h) ?_); focus rfl)
      | ((with_reducible refine e_p ?_ (mp9 h) ?_); focus rfl)
      | ((with_reducible refine e_p ?_ (mp10 h) ?_); focus rfl)
      | ((with_reducible refine e_p ?_ (mp11 h) ?_); focus rfl)
      | ((with_reducible refine e_p ?_ (mp12 h) ?_); focus rfl)
      | ((with_reducible refine e_p ?_ (mp13 h) ?_); focus rfl)
      | ((with_reducible refine e_p ?_ (mp14 h) ?_); focus rfl)
      | ((with_reducible refine e_p ?_ (mp15 h) ?_); focus rfl)
      | ((with_reducible refine e_p ?_ (mp16 h) ?_); focus rfl)
      | ((with_reducible refine e_p ?_ (mp17 h) ?_); focus rfl)
      | ((with_reducible refine e_p ?_ (mp18 h) ?_); focus rfl)
      | ((with_reducible refine e_p ?_ (mp19 h) ?_); focus rfl)
      | ((with_reducible refine e_p ?_ (mp20 h) ?_); focus rfl)
      | ((with_reducible refine e_p ?_ (mp21 h) ?_); focus rfl)
      | ((with_reducible refine e_o2 ?_ ei ?_); focus (first | with_reducible rfl | (simp (disch := omega) only [b_all, sV_all, ↓reduceIte, Nat.reduceEqDiff, Nat.reduceLT, Nat.reduceLeDiff, Nat.reduceAdd, Nat.reduceMul, Nat.reduceSub, i_lit, eq_self, and_true, true_and, and_self, not_true_eq_false, not_false_eq_true, or_true, true_or, or_false, false_or, false_and, and_false, reduceCtorEq, Nat.add_left_cancel_iff, Nat.add_zero, Nat.zero_add, md_all h]; done)))
      | ((with_reducible refine e_o2 ?_ ej ?_); focus (first | with_reducible rfl | (simp (disch := omega) only [b_all, sV_all, ↓reduceIte, Nat.reduceEqDiff, Nat.reduceLT, Nat.reduceLeDiff, Nat.reduceAdd, Nat.reduceMul, Nat.reduceSub, i_lit, eq_self, and_true, true_and, and_self, not_true_eq_false, not_false_eq_true, or_true, true_or, or_false, false_or, false_and, and_false, reduceCtorEq, Nat.add_left_cancel_iff, Nat.add_zero, Nat.zero_add, md_all h]; done)))
      | ((with_reducible refine e_o2 ?_ f0 ?_); focus (first | with_reducible rfl | (simp (disch := omega) only [b_all, sV_all, ↓reduceIte, Nat.reduceEqDiff, Nat.reduceLT, Nat.reduceLeDiff, Nat.reduceAdd, Nat.reduceMul, Nat.reduceSub, i_lit, eq_self, and_true, true_and, and_self, not_true_eq_false, not_false_eq_true, or_true, true_or, or_false, false_or, false_and, and_false, reduceCtorEq, Nat.add_left_cancel_iff, Nat.add_zero, Nat.zero_add, md_all h]; done)))
      | ((with_reducible refine e_ip ?_ ?_); focus (simp (disch := omega) only [b_all, sV_all, ↓reduceIte, Nat.reduceEqDiff, Nat.reduceLT, Nat.reduceLeDiff, Nat.reduceAdd, Nat.reduceMul, Nat.reduceSub, i_lit, eq_self, and_true, true_and, and_self, not_true_eq_false, not_false_eq_true, or_true, true_or, or_false, false_or, false_and, and_false, reduceCtorEq, Nat.add_left_cancel_iff, Nat.add_zero, Nat.zero_add, md_all h]; done))
      | ((with_reducible refine e_in ?_ ?_); focus (simp (disch := omega) only [b_all, sV_all, ↓reduceIte, Nat.reduceEqDiff, Nat.reduceLT, Nat.reduceLeDiff, Nat.reduceAdd, Nat.reduceMul, Nat.reduceSub, i_lit, eq_self, and_true, true_and, and_self, not_true_eq_false, not_false_eq_true, or_true, true_or, or_false, false_or, false_and, and_false, reduceCtorEq, Nat.add_left_cancel_iff, Nat.add_zero, Nat.zero_add, md_all h]; done))
      | unfold fX5_write_16
      | unfold fX5_write_21
      | unfold fX5_write_74
      | fail)
    first | with_reducible rfl | simp (disch := omega) only [b_all, sV_all, ↓reduceIte, Nat.reduceEqDiff, Nat.reduceLT, Nat.reduceLeDiff, Nat.reduceAdd, Nat.reduceMul, Nat.reduceSub, i_lit, eq_self, and_true, true_and, and_self, not_true_eq_false, not_false_eq_true, or_true, true_or, or_false, false_or, false_and, and_false, reduceCtorEq, Nat.add_left_cancel_iff, Nat.add_zero, Nat.zero_add, md_all h]
  · unfold fX5_write
    repeat (first
      | (with_reducible refine e_l1 ?_)
      | ((with_reducible refine e_k ?_ (mkM h) ?_); focus rfl)
      | ((with_reducible refine e_p ?_ (mp1 h) ?_); focus rfl)
      | ((with_reducible refine e_p ?_ (mp2 h) ?_); focus rfl)
      | ((with_reducible refine e_p ?_ (mp3 h) ?_); focus rfl)
      | ((with_reducible refine e_p ?_ (mp4 h) ?_); focus rfl)
      | ((with_reducible refine e_p ?_ (mp5 h) ?_); focus rfl)
      | ((with_reducible refine e_p ?_ (mp6 h) ?_); focus rfl)
      | ((with_reducible refine e_p ?_ (mp7 h) ?_); focus rfl)
      | ((with_reducible refine e_p ?_ (mp8 h) ?_); focus rfl)
      | ((with_reducible refine e_p ?_ (mp9 h) ?_); focus rfl)
      | ((with_reducible refine e_p ?_ (mp10 h) ?_); focus rfl)
      | ((with_reducible refine e_p ?_ (mp11 h) ?_); focus rfl)
      | ((with_reducible refine e_p ?_ (mp12 h) ?_); focus rfl)
      | ((with_reducible refine e_p ?_ (mp13 h) ?_); focus rfl)
      | ((with_reducible refine e_p ?_ (mp14 h) ?_); focus rfl)
      | ((with_reducible refine e_p ?_ (mp15 h) ?_); focus rfl)
      | ((with_reducible refine e_p ?_ (mp16 h) ?_); focus rfl)
      | ((with_reducible refine e_p ?_ (mp17 h) ?_); focus rfl)
      | ((with_reducible refine e_p ?_ (mp18 h) ?_); focus rfl)
      | ((with_reducible refine e_p ?_ (mp19 h) ?_); focus rfl)
      | ((with_reducible refine e_p ?_ (mp20 h) ?_); focus rfl)
      | ((with_reducible refine e_p ?_ (mp21 h) ?_); focus rfl)
      | ((with_reducible refine e_o2 ?_ ei ?_); focus (first | with_reducible rfl | (simp (disch := omega) only [b_all, sV_all, ↓reduceIte, Nat.reduceEqDiff, Nat.reduceLT, Nat.reduceLeDiff, Nat.reduceAdd, Nat.reduceMul, Nat.reduceSub, i_lit, eq_self, and_true, true_and, and_self, not_true_eq_false, not_false_eq_true, or_true, true_or, or_false, false_or, false_and, and_false, reduceCtorEq, Nat.add_left_cancel_iff, Nat.add_zero, Nat.zero_add, md_all h]; done)))
      | ((with_reducible refine e_o2 ?_ ej ?_); focus (first | with_reducible rfl | (simp (disch := omega) only [b_all, sV_all, ↓reduceIte, Nat.reduceEqDiff, Nat.reduceLT, Nat.reduceLeDiff, Nat.reduceAdd, Nat.reduceMul, Nat.reduceSub, i_lit, eq_self, and_true, true_and, and_self, not_true_eq_false, not_false_eq_true, or_true, true_or, or_false, false_or, false_and, and_false, reduceCtorEq, Nat.add_left_cancel_iff, Nat.add_zero, Nat.zero_add, md_all h]; done)))
      | ((with_reducible refine e_o2 ?_ f0 ?_); focus (first | with_reducible rfl | (simp (disch := omega) only [b_all, sV_all, ↓reduceIte, Nat.reduceEqDiff, Nat.reduceLT, Nat.reduceLeDiff, Nat.reduceAdd, Nat.reduceMul, Nat.reduceSub, i_lit, eq_self, and_true, true_and, and_self, not_true_eq_false, not_false_eq_true, or_true, true_or, or_false, false_or, false_and, and_false, reduceCtorEq, Nat.add_left_cancel_iff, Nat.add_zero, Nat.zero_add, md_all h]; done)))
      | ((with_reducible refine e_ip ?_ ?_); focus (simp (disch := omega) only [b_all, sV_all, ↓reduceIte, Nat.reduceEqDiff, Nat.reduceLT, Nat.reduceLeDiff, Nat.reduceAdd, Nat.reduceMul, Nat.reduceSub, i_lit, eq_self, and_true, true_and, and_self, not_true_eq_false, not_false_eq_true, or_true, true_or, or_false, false_or, false_and, and_false, reduceCtorEq, Nat.add_left_cancel_iff, Nat.add_zero, Nat.zero_add, md_all h]; done))
      | ((with_reducible refine e_in ?_ ?_); focus (simp (disch := omega) only [b_all, sV_all, ↓reduceIte, Nat.reduceEqDiff, Nat.reduceLT, Nat.reduceLeDiff, Nat.reduceAdd, Nat.reduceMul, Nat.reduceSub, i_lit, eq_self, and_true, true_and, and_self, not_true_eq_false, not_false_eq_true, or_true, true_or, or_false, false_or, false_and, and_false, reduceCtorEq, Nat.add_left_cancel_iff, Nat.add_zero, Nat.zero_add, md_all h]; done))
      | unfold fX5_write_16
      | unfold fX5_write_21
      | unfold fX5_write_74
      | fail)
    first | with_reducible rfl | simp (disch := omega) only [b_all, sV_all, ↓reduceIte, Nat.reduceEqDiff, Nat.reduceLT, Nat.reduceLeDiff, Nat.reduceAdd, Nat.reduceMul, Nat.reduceSub, i_lit, eq_self, and_true, true_and, and_self, not_true_eq_false, not_false_eq_true, or_true, true_or, or_false, false_or, false_and, and_false, reduceCtorEq, Nat.add_left_cancel_iff, Nat.add_zero, Nat.zero_add, md_all h]
theorem m_write_ise (hk : 5000 ≤ k) (h : St x B C W M) (hb : Bd W) {t o v : Nat} (ht : t < W 0 5) (ho : o < 20) (hn : W 5 t ≠ 0 ∨ (¬ wr W t o ∧ ct (wr W t) 20 = 10)) : fX5_write x k (B + 25) (i32 t) (i32 o) (i32 v) M = some (i32 0, sV (sV M (B + 25) 27 (i32 0)) (B + 25) 27 (i32 2)) := by
  have h0 := hb.1
  have ei := s_isOne (k := k) h (a := t) (by omega) hb.1.2.2.1
  have ej := s_isObject (k := k) (x := x) (M := M) (a := o) (by omega)
  have f0 := s_fails0 (k := k) h 1
  have f1 := s_fails1 (k := k) (su0 h 27 0) 2
  have h5 : W 5 t < 5 := hb.r (by omega) t
  have h13 : W 13 (20 * t + o) < 2 := hb.r (by omega) _
  by_cases c : W 5 t = 0
  · have hn' : W 13 (20 * t + o) = 0 ∧ ct (wr W t) 20 = 10 := by
      rcases hn with q | ⟨q, q'⟩
      · exact absurd c q
      · exact ⟨Nat.eq_zero_of_not_pos (fun z => q (by unfold wr; omega)), q'⟩
    have eo := s_objects (k := k) hk (su0 h 27 0) (t := t) (by omega) (hb.th (by omega) 0)
    have ee : ct (wr (U W 0 27 0) t) 20 = 10 := hn'.2
    rw [ee] at eo
    have hz := hn'.1
    unfold fX5_write
    repeat (first
      | (with_reducible refine e_l1 ?_)
      | ((with_reducible refine e_k ?_ (mkM h) ?_); focus rfl)
      | ((with_reducible refine e_p ?_ (mp1 h) ?_); focus rfl)
      | ((with_reducible refine e_p ?_ (mp2 h) ?_); focus rfl)
      | ((with_reducible refine e_p ?_ (mp3 h) ?_); focus rfl)
      | ((with_reducible refine e_p ?_ (mp4 h) ?_); focus rfl)
      | ((with_reducible refine e_p ?_ (mp5 h) ?_); focus rfl)
      | ((with_reducible refine e_p ?_ (mp6 h) ?_); focus rfl)
      | ((with_reducible refine e_p ?_ (mp7 h) ?_); focus rfl)
      | ((with_reducible refine e_p ?_ (mp8 h) ?_); focus rfl)
      | ((with_reducible refine e_p ?_ (mp9 h) ?_); focus rfl)
      | ((with_reducible refine e_p ?_ (mp10 h) ?_); focus rfl)
      | ((with_reducible refine e_p ?_ (mp11 h) ?_); focus rfl)
      | ((with_reducible refine e_p ?_ (mp12 h) ?_); focus rfl)
      | ((with_reducible refine e_p ?_ (mp13 h) ?_); focus rfl)
      | ((with_reducible refine e_p ?_ (mp14 h) ?_); focus rfl)
      | ((with_reducible refine e_p ?_ (mp15 h) ?_); focus rfl)
      | ((with_reducible refine e_p ?_ (mp16 h) ?_); focus rfl)
      | ((with_reducible refine e_p ?_ (mp17 h) ?_); focus rfl)
      | ((with_reducible refine e_p ?_ (mp18 h) ?_); focus rfl)
      | ((with_reducible refine e_p ?_ (mp19 h) ?_); focus rfl)
      | ((with_reducible refine e_p ?_ (mp20 h) ?_); focus rfl)
      | ((with_reducible refine e_p ?_ (mp21 h) ?_); focus rfl)
      | ((with_reducible refine e_o2 ?_ ei ?_); focus (first | with_reducible rfl | (simp (disch := omega) only [b_all, sV_all, ↓reduceIte, Nat.reduceEqDiff, Nat.reduceLT, Nat.reduceLeDiff, Nat.reduceAdd, Nat.reduceMul, Nat.reduceSub, i_lit, eq_self, and_true, true_and, and_self, not_true_eq_false, not_false_eq_true, or_true, true_or, or_false, false_or, false_and, and_false, reduceCtorEq, Nat.add_left_cancel_iff, Nat.add_zero, Nat.zero_add, md_all h]; done)))
      | ((with_reducible refine e_o2 ?_ ej ?_); focus (first | with_reducible rfl | (simp (disch := omega) only [b_all, sV_all, ↓reduceIte, Nat.reduceEqDiff, Nat.reduceLT, Nat.reduceLeDiff, Nat.reduceAdd, Nat.reduceMul, Nat.reduceSub, i_lit, eq_self, and_true, true_and, and_self, not_true_eq_false, not_false_eq_true, or_true, true_or, or_false, false_or, false_and, and_false, reduceCtorEq, Nat.add_left_cancel_iff, Nat.add_zero, Nat.zero_add, md_all h]; done)))
      | ((with_reducible refine e_o2 ?_ f0 ?_); focus (first | with_reducible rfl | (simp (disch := omega) only [b_all, sV_all, ↓reduceIte, Nat.reduceEqDiff, Nat.reduceLT, Nat.reduceLeDiff, Nat.reduceAdd, Nat.reduceMul, Nat.reduceSub, i_lit, eq_self, and_true, true_and, and_self, not_true_eq_false, not_false_eq_true, or_true, true_or, or_false, false_or, false_and, and_false, reduceCtorEq, Nat.add_left_cancel_iff, Nat.add_zero, Nat.zero_add, md_all h]; done)))
      | ((with_reducible refine e_o2 ?_ f1 ?_); focus (first | with_reducible rfl | (simp (disch := omega) only [b_all, sV_all, ↓reduceIte, Nat.reduceEqDiff, Nat.reduceLT, Nat.reduceLeDiff, Nat.reduceAdd, Nat.reduceMul, Nat.reduceSub, i_lit, eq_self, and_true, true_and, and_self, not_true_eq_false, not_false_eq_true, or_true, true_or, or_false, false_or, false_and, and_false, reduceCtorEq, Nat.add_left_cancel_iff, Nat.add_zero, Nat.zero_add, md_all h]; done)))
      | ((with_reducible refine e_o2 ?_ eo ?_); focus (first | with_reducible rfl | (simp (disch := omega) only [b_all, sV_all, ↓reduceIte, Nat.reduceEqDiff, Nat.reduceLT, Nat.reduceLeDiff, Nat.reduceAdd, Nat.reduceMul, Nat.reduceSub, i_lit, eq_self, and_true, true_and, and_self, not_true_eq_false, not_false_eq_true, or_true, true_or, or_false, false_or, false_and, and_false, reduceCtorEq, Nat.add_left_cancel_iff, Nat.add_zero, Nat.zero_add, md_all h]; done)))
      | ((with_reducible refine e_ip ?_ ?_); focus (simp (disch := omega) only [b_all, sV_all, ↓reduceIte, Nat.reduceEqDiff, Nat.reduceLT, Nat.reduceLeDiff, Nat.reduceAdd, Nat.reduceMul, Nat.reduceSub, i_lit, eq_self, and_true, true_and, and_self, not_true_eq_false, not_false_eq_true, or_true, true_or, or_false, false_or, false_and, and_false, reduceCtorEq, Nat.add_left_cancel_iff, Nat.add_zero, Nat.zero_add, md_all h]; done))
      | ((with_reducible refine e_in ?_ ?_); focus (simp (disch := omega) only [b_all, sV_all, ↓reduceIte, Nat.reduceEqDiff, Nat.reduceLT, Nat.reduceLeDiff, Nat.reduceAdd, Nat.reduceMul, Nat.reduceSub, i_lit, eq_self, and_true, true_and, and_self, not_true_eq_false, not_false_eq_true, or_true, true_or, or_false, false_or, false_and, and_false, reduceCtorEq, Nat.add_left_cancel_iff, Nat.add_zero, Nat.zero_add, md_all h]; done))
      | unfold fX5_write_16
      | unfold fX5_write_21
      | unfold fX5_write_62
      | unfold fX5_write_67
      | unfold fX5_write_74
      | fail)
    first | with_reducible rfl | simp (disch := omega) only [b_all, sV_all, ↓reduceIte, Nat.reduceEqDiff, Nat.reduceLT, Nat.reduceLeDiff, Nat.reduceAdd, Nat.reduceMul, Nat.reduceSub, i_lit, eq_self, and_true, true_and, and_self, not_true_eq_false, not_false_eq_true, or_true, true_or, or_false, false_or, false_and, and_false, reduceCtorEq, Nat.add_left_cancel_iff, Nat.add_zero, Nat.zero_add, md_all h]
  · unfold fX5_write
    repeat (first
      | (with_reducible refine e_l1 ?_)
      | ((with_reducible refine e_k ?_ (mkM h) ?_); focus rfl)
      | ((with_reducible refine e_p ?_ (mp1 h) ?_); focus rfl)
      | ((with_reducible refine e_p ?_ (mp2 h) ?_); focus rfl)
      | ((with_reducible refine e_p ?_ (mp3 h) ?_); focus rfl)
      | ((with_reducible refine e_p ?_ (mp4 h) ?_); focus rfl)
      | ((with_reducible refine e_p ?_ (mp5 h) ?_); focus rfl)
      | ((with_reducible refine e_p ?_ (mp6 h) ?_); focus rfl)
      | ((with_reducible refine e_p ?_ (mp7 h) ?_); focus rfl)
      | ((with_reducible refine e_p ?_ (mp8 h) ?_); focus rfl)
      | ((with_reducible refine e_p ?_ (mp9 h) ?_); focus rfl)
      | ((with_reducible refine e_p ?_ (mp10 h) ?_); focus rfl)
      | ((with_reducible refine e_p ?_ (mp11 h) ?_); focus rfl)
      | ((with_reducible refine e_p ?_ (mp12 h) ?_); focus rfl)
      | ((with_reducible refine e_p ?_ (mp13 h) ?_); focus rfl)
      | ((with_reducible refine e_p ?_ (mp14 h) ?_); focus rfl)
      | ((with_reducible refine e_p ?_ (mp15 h) ?_); focus rfl)
      | ((with_reducible refine e_p ?_ (mp16 h) ?_); focus rfl)
      | ((with_reducible refine e_p ?_ (mp17 h) ?_); focus rfl)
      | ((with_reducible refine e_p ?_ (mp18 h) ?_); focus rfl)
      | ((with_reducible refine e_p ?_ (mp19 h) ?_); focus rfl)
      | ((with_reducible refine e_p ?_ (mp20 h) ?_); focus rfl)
      | ((with_reducible refine e_p ?_ (mp21 h) ?_); focus rfl)
      | ((with_reducible refine e_o2 ?_ ei ?_); focus (first | with_reducible rfl | (simp (disch := omega) only [b_all, sV_all, ↓reduceIte, Nat.reduceEqDiff, Nat.reduceLT, Nat.reduceLeDiff, Nat.reduceAdd, Nat.reduceMul, Nat.reduceSub, i_lit, eq_self, and_true, true_and, and_self, not_true_eq_false, not_false_eq_true, or_true, true_or, or_false, false_or, false_and, and_false, reduceCtorEq, Nat.add_left_cancel_iff, Nat.add_zero, Nat.zero_add, md_all h]; done)))
      | ((with_reducible refine e_o2 ?_ ej ?_); focus (first | with_reducible rfl | (simp (disch := omega) only [b_all, sV_all, ↓reduceIte, Nat.reduceEqDiff, Nat.reduceLT, Nat.reduceLeDiff, Nat.reduceAdd, Nat.reduceMul, Nat.reduceSub, i_lit, eq_self, and_true, true_and, and_self, not_true_eq_false, not_false_eq_true, or_true, true_or, or_false, false_or, false_and, and_false, reduceCtorEq, Nat.add_left_cancel_iff, Nat.add_zero, Nat.zero_add, md_all h]; done)))
      | ((with_reducible refine e_o2 ?_ f0 ?_); focus (first | with_reducible rfl | (simp (disch := omega) only [b_all, sV_all, ↓reduceIte, Nat.reduceEqDiff, Nat.reduceLT, Nat.reduceLeDiff, Nat.reduceAdd, Nat.reduceMul, Nat.reduceSub, i_lit, eq_self, and_true, true_and, and_self, not_true_eq_false, not_false_eq_true, or_true, true_or, or_false, false_or, false_and, and_false, reduceCtorEq, Nat.add_left_cancel_iff, Nat.add_zero, Nat.zero_add, md_all h]; done)))
      | ((with_reducible refine e_o2 ?_ f1 ?_); focus (first | with_reducible rfl | (simp (disch := omega) only [b_all, sV_all, ↓reduceIte, Nat.reduceEqDiff, Nat.reduceLT, Nat.reduceLeDiff, Nat.reduceAdd, Nat.reduceMul, Nat.reduceSub, i_lit, eq_self, and_true, true_and, and_self, not_true_eq_false, not_false_eq_true, or_true, true_or, or_false, false_or, false_and, and_false, reduceCtorEq, Nat.add_left_cancel_iff, Nat.add_zero, Nat.zero_add, md_all h]; done)))
      | ((with_reducible refine e_ip ?_ ?_); focus (simp (disch := omega) only [b_all, sV_all, ↓reduceIte, Nat.reduceEqDiff, Nat.reduceLT, Nat.reduceLeDiff, Nat.reduceAdd, Nat.reduceMul, Nat.reduceSub, i_lit, eq_self, and_true, true_and, and_self, not_true_eq_false, not_false_eq_true, or_true, true_or, or_false, false_or, false_and, and_false, reduceCtorEq, Nat.add_left_cancel_iff, Nat.add_zero, Nat.zero_add, md_all h]; done))
      | ((with_reducible refine e_in ?_ ?_); focus (simp (disch := omega) only [b_all, sV_all, ↓reduceIte, Nat.reduceEqDiff, Nat.reduceLT, Nat.reduceLeDiff, Nat.reduceAdd, Nat.reduceMul, Nat.reduceSub, i_lit, eq_self, and_true, true_and, and_self, not_true_eq_false, not_false_eq_true, or_true, true_or, or_false, false_or, false_and, and_false, reduceCtorEq, Nat.add_left_cancel_iff, Nat.add_zero, Nat.zero_add, md_all h]; done))
      | unfold fX5_write_16
      | unfold fX5_write_21
      | unfold fX5_write_62
      | unfold fX5_write_67
      | unfold fX5_write_74
      | fail)
    first | with_reducible rfl | simp (disch := omega) only [b_all, sV_all, ↓reduceIte, Nat.reduceEqDiff, Nat.reduceLT, Nat.reduceLeDiff, Nat.reduceAdd, Nat.reduceMul, Nat.reduceSub, i_lit, eq_self, and_true, true_and, and_self, not_true_eq_false, not_false_eq_true, or_true, true_or, or_false, false_or, false_and, and_false, reduceCtorEq, Nat.add_left_cancel_iff, Nat.add_zero, Nat.zero_add, md_all h]
def wWrite (W : Ab) (t o v : Nat) : Ab := U (U (t00 W) 13 (20 * t + o) 1) 14 (20 * t + o) v
theorem m_write_ok (hk : 5000 ≤ k) (h : St x B C W M) (hb : Bd W) {t o v : Nat} (hv : v < 4294967296) (ht : t < W 0 5) (ho : o < 20) (hn : W 5 t = 0) (hw : wr W t o ∨ ct (wr W t) 20 ≠ 10) : ∃ M', fX5_write x k (B + 25) (i32 t) (i32 o) (i32 v) M = some (i32 (ct (wr (wWrite W t o v) t) 20), M') ∧ St x B C (wWrite W t o v) M' := by
  have h0 := hb.1
  have ei := s_isOne (k := k) h (a := t) (by omega) hb.1.2.2.1
  have ej := s_isObject (k := k) (x := x) (M := M) (a := o) (by omega)
  have f0 := s_fails0 (k := k) h 1
  have f1 := s_fails0 (k := k) (su0 h 27 0) 2
  have h13 : W 13 (20 * t + o) < 2 := hb.r (by omega) _
  have hM : St x B C (wWrite W t o v) _ := su14 (su13 (su0 (su0 h 27 0) 27 0) (20 * t + o) 1) (20 * t + o) v
  have hbW : Bd (wWrite W t o v) := (hb.t00.u (i := 13) (by omega) _ (by decide)).u (i := 14) (by omega) _ hv
  have eo2 := s_objects (k := k) hk hM (t := t) (by omega) hbW
  have eo := s_objects (k := k) hk (su0 h 27 0) (t := t) (by omega) (hb.th (by omega) 0)
  have hle := ct_le (wr (U W 0 27 0) t) 20
  refine ⟨_, ?_, hM⟩
  by_cases c : W 13 (20 * t + o) = 0
  · have hw' : ct (wr (U W 0 27 0) t) 20 ≠ 10 := by
      rcases hw with q | q
      · exact absurd c q
      · exact q
    unfold fX5_write
    repeat (first
      | (with_reducible refine e_l1 ?_)
      | ((with_reducible refine e_k ?_ (mkM h) ?_); focus rfl)
      | ((with_reducible refine e_p ?_ (mp1 h) ?_); focus rfl)
      | ((with_reducible refine e_p ?_ (mp2 h) ?_); focus rfl)
      | ((with_reducible refine e_p ?_ (mp3 h) ?_); focus rfl)
      | ((with_reducible refine e_p ?_ (mp4 h) ?_); focus rfl)
      | ((with_reducible refine e_p ?_ (mp5 h) ?_); focus rfl)
      | ((with_reducible refine e_p ?_ (mp6 h) ?_); focus rfl)
      | ((with_reducible refine e_p ?_ (mp7 h) ?_); focus rfl)
      | ((with_reducible refine e_p ?_ (mp8 h) ?_); focus rfl)
      | ((with_reducible refine e_p ?_ (mp9 h) ?_); focus rfl)
      | ((with_reducible refine e_p ?_ (mp10 h) ?_); focus rfl)
      | ((with_reducible refine e_p ?_ (mp11 h) ?_); focus rfl)
      | ((with_reducible refine e_p ?_ (mp12 h) ?_); focus rfl)
      | ((with_reducible refine e_p ?_ (mp13 h) ?_); focus rfl)
      | ((with_reducible refine e_p ?_ (mp14 h) ?_); focus rfl)
      | ((with_reducible refine e_p ?_ (mp15 h) ?_); focus rfl)
      | ((with_reducible refine e_p ?_ (mp16 h) ?_); focus rfl)
      | ((with_reducible refine e_p ?_ (mp17 h) ?_); focus rfl)
      | ((with_reducible refine e_p ?_ (mp18 h) ?_); focus rfl)
      | ((with_reducible refine e_p ?_ (mp19 h) ?_); focus rfl)
      | ((with_reducible refine e_p ?_ (mp20 h) ?_); focus rfl)
      | ((with_reducible refine e_p ?_ (mp21 h) ?_); focus rfl)
      | ((with_reducible refine e_o2 ?_ ei ?_); focus (first | with_reducible rfl | (simp (disch := omega) only [b_all, sV_all, ↓reduceIte, Nat.reduceEqDiff, Nat.reduceLT, Nat.reduceLeDiff, Nat.reduceAdd, Nat.reduceMul, Nat.reduceSub, i_lit, eq_self, and_true, true_and, and_self, not_true_eq_false, not_false_eq_true, or_true, true_or, or_false, false_or, false_and, and_false, reduceCtorEq, Nat.add_left_cancel_iff, Nat.add_zero, Nat.zero_add, md_all h]; done)))
      | ((with_reducible refine e_o2 ?_ ej ?_); focus (first | with_reducible rfl | (simp (disch := omega) only [b_all, sV_all, ↓reduceIte, Nat.reduceEqDiff, Nat.reduceLT, Nat.reduceLeDiff, Nat.reduceAdd, Nat.reduceMul, Nat.reduceSub, i_lit, eq_self, and_true, true_and, and_self, not_true_eq_false, not_false_eq_true, or_true, true_or, or_false, false_or, false_and, and_false, reduceCtorEq, Nat.add_left_cancel_iff, Nat.add_zero, Nat.zero_add, md_all h]; done)))
      | ((with_reducible refine e_o2 ?_ f0 ?_); focus (first | with_reducible rfl | (simp (disch := omega) only [b_all, sV_all, ↓reduceIte, Nat.reduceEqDiff, Nat.reduceLT, Nat.reduceLeDiff, Nat.reduceAdd, Nat.reduceMul, Nat.reduceSub, i_lit, eq_self, and_true, true_and, and_self, not_true_eq_false, not_false_eq_true, or_true, true_or, or_false, false_or, false_and, and_false, reduceCtorEq, Nat.add_left_cancel_iff, Nat.add_zero, Nat.zero_add, md_all h]; done)))
      | ((with_reducible refine e_o2 ?_ f1 ?_); focus (first | with_reducible rfl | (simp (disch := omega) only [b_all, sV_all, ↓reduceIte, Nat.reduceEqDiff, Nat.reduceLT, Nat.reduceLeDiff, Nat.reduceAdd, Nat.reduceMul, Nat.reduceSub, i_lit, eq_self, and_true, true_and, and_self, not_true_eq_false, not_false_eq_true, or_true, true_or, or_false, false_or, false_and, and_false, reduceCtorEq, Nat.add_left_cancel_iff, Nat.add_zero, Nat.zero_add, md_all h]; done)))
      | ((with_reducible refine e_o2 ?_ eo ?_); focus (first | with_reducible rfl | (simp (disch := omega) only [b_all, sV_all, ↓reduceIte, Nat.reduceEqDiff, Nat.reduceLT, Nat.reduceLeDiff, Nat.reduceAdd, Nat.reduceMul, Nat.reduceSub, i_lit, eq_self, and_true, true_and, and_self, not_true_eq_false, not_false_eq_true, or_true, true_or, or_false, false_or, false_and, and_false, reduceCtorEq, Nat.add_left_cancel_iff, Nat.add_zero, Nat.zero_add, md_all h]; done)))
      | ((with_reducible refine e_o2 ?_ eo2 ?_); focus (first | with_reducible rfl | (simp (disch := omega) only [b_all, sV_all, ↓reduceIte, Nat.reduceEqDiff, Nat.reduceLT, Nat.reduceLeDiff, Nat.reduceAdd, Nat.reduceMul, Nat.reduceSub, i_lit, eq_self, and_true, true_and, and_self, not_true_eq_false, not_false_eq_true, or_true, true_or, or_false, false_or, false_and, and_false, reduceCtorEq, Nat.add_left_cancel_iff, Nat.add_zero, Nat.zero_add, md_all h]; done)))
      | ((with_reducible refine e_ip ?_ ?_); focus (simp (disch := omega) only [b_all, sV_all, ↓reduceIte, Nat.reduceEqDiff, Nat.reduceLT, Nat.reduceLeDiff, Nat.reduceAdd, Nat.reduceMul, Nat.reduceSub, i_lit, eq_self, and_true, true_and, and_self, not_true_eq_false, not_false_eq_true, or_true, true_or, or_false, false_or, false_and, and_false, reduceCtorEq, Nat.add_left_cancel_iff, Nat.add_zero, Nat.zero_add, md_all h]; done))
      | ((with_reducible refine e_in ?_ ?_); focus (simp (disch := omega) only [b_all, sV_all, ↓reduceIte, Nat.reduceEqDiff, Nat.reduceLT, Nat.reduceLeDiff, Nat.reduceAdd, Nat.reduceMul, Nat.reduceSub, i_lit, eq_self, and_true, true_and, and_self, not_true_eq_false, not_false_eq_true, or_true, true_or, or_false, false_or, false_and, and_false, reduceCtorEq, Nat.add_left_cancel_iff, Nat.add_zero, Nat.zero_add, md_all h]; done))
      | unfold fX5_write_16
      | unfold fX5_write_21
      | unfold fX5_write_66
      | unfold fX5_write_67
      | fail)
    first | with_reducible rfl | simp (disch := omega) only [b_all, sV_all, ↓reduceIte, Nat.reduceEqDiff, Nat.reduceLT, Nat.reduceLeDiff, Nat.reduceAdd, Nat.reduceMul, Nat.reduceSub, i_lit, eq_self, and_true, true_and, and_self, not_true_eq_false, not_false_eq_true, or_true, true_or, or_false, false_or, false_and, and_false, reduceCtorEq, Nat.add_left_cancel_iff, Nat.add_zero, Nat.zero_add, md_all h]
  · unfold fX5_write
    repeat (first
      | (with_reducible refine e_l1 ?_)
      | ((with_reducible refine e_k ?_ (mkM h) ?_); focus rfl)
      | ((with_reducible refine e_p ?_ (mp1 h) ?_); focus rfl)
      | ((with_reducible refine e_p ?_ (mp2 h) ?_); focus rfl)
      | ((with_reducible refine e_p ?_ (mp3 h) ?_); focus rfl)
      | ((with_reducible refine e_p ?_ (mp4 h) ?_); focus rfl)
      | ((with_reducible refine e_p ?_ (mp5 h) ?_); focus rfl)
      | ((with_reducible refine e_p ?_ (mp6 h) ?_); focus rfl)
      | ((with_reducible refine e_p ?_ (mp7 h) ?_); focus rfl)
      | ((with_reducible refine e_p ?_ (mp8 h) ?_); focus rfl)
      | ((with_reducible refine e_p ?_ (mp9 h) ?_); focus rfl)
      | ((with_reducible refine e_p ?_ (mp10 h) ?_); focus rfl)
      | ((with_reducible refine e_p ?_ (mp11 h) ?_); focus rfl)
      | ((with_reducible refine e_p ?_ (mp12 h) ?_); focus rfl)
      | ((with_reducible refine e_p ?_ (mp13 h) ?_); focus rfl)
      | ((with_reducible refine e_p ?_ (mp14 h) ?_); focus rfl)
      | ((with_reducible refine e_p ?_ (mp15 h) ?_); focus rfl)
      | ((with_reducible refine e_p ?_ (mp16 h) ?_); focus rfl)
      | ((with_reducible refine e_p ?_ (mp17 h) ?_); focus rfl)
      | ((with_reducible refine e_p ?_ (mp18 h) ?_); focus rfl)
      | ((with_reducible refine e_p ?_ (mp19 h) ?_); focus rfl)
      | ((with_reducible refine e_p ?_ (mp20 h) ?_); focus rfl)
      | ((with_reducible refine e_p ?_ (mp21 h) ?_); focus rfl)
      | ((with_reducible refine e_o2 ?_ ei ?_); focus (first | with_reducible rfl | (simp (disch := omega) only [b_all, sV_all, ↓reduceIte, Nat.reduceEqDiff, Nat.reduceLT, Nat.reduceLeDiff, Nat.reduceAdd, Nat.reduceMul, Nat.reduceSub, i_lit, eq_self, and_true, true_and, and_self, not_true_eq_false, not_false_eq_true, or_true, true_or, or_false, false_or, false_and, and_false, reduceCtorEq, Nat.add_left_cancel_iff, Nat.add_zero, Nat.zero_add, md_all h]; done)))
      | ((with_reducible refine e_o2 ?_ ej ?_); focus (first | with_reducible rfl | (simp (disch := omega) only [b_all, sV_all, ↓reduceIte, Nat.reduceEqDiff, Nat.reduceLT, Nat.reduceLeDiff, Nat.reduceAdd, Nat.reduceMul, Nat.reduceSub, i_lit, eq_self, and_true, true_and, and_self, not_true_eq_false, not_false_eq_true, or_true, true_or, or_false, false_or, false_and, and_false, reduceCtorEq, Nat.add_left_cancel_iff, Nat.add_zero, Nat.zero_add, md_all h]; done)))
      | ((with_reducible refine e_o2 ?_ f0 ?_); focus (first | with_reducible rfl | (simp (disch := omega) only [b_all, sV_all, ↓reduceIte, Nat.reduceEqDiff, Nat.reduceLT, Nat.reduceLeDiff, Nat.reduceAdd, Nat.reduceMul, Nat.reduceSub, i_lit, eq_self, and_true, true_and, and_self, not_true_eq_false, not_false_eq_true, or_true, true_or, or_false, false_or, false_and, and_false, reduceCtorEq, Nat.add_left_cancel_iff, Nat.add_zero, Nat.zero_add, md_all h]; done)))
      | ((with_reducible refine e_o2 ?_ f1 ?_); focus (first | with_reducible rfl | (simp (disch := omega) only [b_all, sV_all, ↓reduceIte, Nat.reduceEqDiff, Nat.reduceLT, Nat.reduceLeDiff, Nat.reduceAdd, Nat.reduceMul, Nat.reduceSub, i_lit, eq_self, and_true, true_and, and_self, not_true_eq_false, not_false_eq_true, or_true, true_or, or_false, false_or, false_and, and_false, reduceCtorEq, Nat.add_left_cancel_iff, Nat.add_zero, Nat.zero_add, md_all h]; done)))
      | ((with_reducible refine e_o2 ?_ eo2 ?_); focus (first | with_reducible rfl | (simp (disch := omega) only [b_all, sV_all, ↓reduceIte, Nat.reduceEqDiff, Nat.reduceLT, Nat.reduceLeDiff, Nat.reduceAdd, Nat.reduceMul, Nat.reduceSub, i_lit, eq_self, and_true, true_and, and_self, not_true_eq_false, not_false_eq_true, or_true, true_or, or_false, false_or, false_and, and_false, reduceCtorEq, Nat.add_left_cancel_iff, Nat.add_zero, Nat.zero_add, md_all h]; done)))
      | ((with_reducible refine e_ip ?_ ?_); focus (simp (disch := omega) only [b_all, sV_all, ↓reduceIte, Nat.reduceEqDiff, Nat.reduceLT, Nat.reduceLeDiff, Nat.reduceAdd, Nat.reduceMul, Nat.reduceSub, i_lit, eq_self, and_true, true_and, and_self, not_true_eq_false, not_false_eq_true, or_true, true_or, or_false, false_or, false_and, and_false, reduceCtorEq, Nat.add_left_cancel_iff, Nat.add_zero, Nat.zero_add, md_all h]; done))
      | ((with_reducible refine e_in ?_ ?_); focus (simp (disch := omega) only [b_all, sV_all, ↓reduceIte, Nat.reduceEqDiff, Nat.reduceLT, Nat.reduceLeDiff, Nat.reduceAdd, Nat.reduceMul, Nat.reduceSub, i_lit, eq_self, and_true, true_and, and_self, not_true_eq_false, not_false_eq_true, or_true, true_or, or_false, false_or, false_and, and_false, reduceCtorEq, Nat.add_left_cancel_iff, Nat.add_zero, Nat.zero_add, md_all h]; done))
      | unfold fX5_write_16
      | unfold fX5_write_21
      | unfold fX5_write_66
      | unfold fX5_write_67
      | fail)
    first | with_reducible rfl | simp (disch := omega) only [b_all, sV_all, ↓reduceIte, Nat.reduceEqDiff, Nat.reduceLT, Nat.reduceLeDiff, Nat.reduceAdd, Nat.reduceMul, Nat.reduceSub, i_lit, eq_self, and_true, true_and, and_self, not_true_eq_false, not_false_eq_true, or_true, true_or, or_false, false_or, false_and, and_false, reduceCtorEq, Nat.add_left_cancel_iff, Nat.add_zero, Nat.zero_add, md_all h]
theorem m_change_iae (h : St x B C W M) (hb : Bd W) {t a e y : Nat} (ht : t < 4294967296) (ha : a < 4294967296) (he : e < 4294967296) (hy : y < 4294967296) (hn : ¬ (t < W 0 5 ∧ (a < 5 ∧ e < 8) ∧ (y = 1 ∨ y = 4294967295))) : fX5_change x k (B + 25) (i32 t) (i32 a) (i32 e) (i32 y) M = some (i32 0, sV M (B + 25) 27 (i32 1)) := by
  have ei := s_isOne (k := k) h ht hb.1.2.2.1
  have ej := s_isElement (k := k) (x := x) (M := M) ha he
  have f0 := s_fails1 (k := k) h 1
  by_cases c : t < W 0 5
  · by_cases c2 : a < 5 ∧ e < 8
    · have c3 : ¬ y = 1 ∧ ¬ y = 4294967295 := by omega
      unfold fX5_change
      repeat (first
        | (with_reducible refine e_l1 ?_)
        | ((with_reducible refine e_k ?_ (mkM h) ?_); focus rfl)
        | ((with_reducible refine e_p ?_ (mp1 h) ?_); focus rfl)
        | ((with_reducible refine e_p ?_ (mp2 h) ?_); focus rfl)
        | ((with_reducible refine e_p ?_ (mp3 h) ?_); focus rfl)
        | ((with_reducible refine e_p ?_ (mp4 h) ?_); focus rfl)
        | ((with_reducible refine e_p ?_ (mp5 h) ?_); focus rfl)
        | ((with_reducible refine e_p ?_ (mp6 h) ?_); focus rfl)
        | ((with_reducible refine e_p ?_ (mp7 h) ?_); focus rfl)
        | ((with_reducible refine e_p ?_ (mp8 h) ?_); focus rfl)
        | ((with_reducible refine e_p ?_ (mp9 h) ?_); focus rfl)
        | ((with_reducible refine e_p ?_ (mp10 h) ?_); focus rfl)
        | ((with_reducible refine e_p ?_ (mp11 h) ?_); focus rfl)
        | ((with_reducible refine e_p ?_ (mp12 h) ?_); focus rfl)
        | ((with_reducible refine e_p ?_ (mp13 h) ?_); focus rfl)
        | ((with_reducible refine e_p ?_ (mp14 h) ?_); focus rfl)
        | ((with_reducible refine e_p ?_ (mp15 h) ?_); focus rfl)
        | ((with_reducible refine e_p ?_ (mp16 h) ?_); focus rfl)
        | ((with_reducible refine e_p ?_ (mp17 h) ?_); focus rfl)
        | ((with_reducible refine e_p ?_ (mp18 h) ?_); focus rfl)
        | ((with_reducible refine e_p ?_ (mp19 h) ?_); focus rfl)
        | ((with_reducible refine e_p ?_ (mp20 h) ?_); focus rfl)
        | ((with_reducible refine e_p ?_ (mp21 h) ?_); focus rfl)
        | ((with_reducible refine e_o2 ?_ ei ?_); focus (first | with_reducible rfl | (simp (disch := omega) only [b_all, sV_all, ↓reduceIte, Nat.reduceEqDiff, Nat.reduceLT, Nat.reduceLeDiff, Nat.reduceAdd, Nat.reduceMul, Nat.reduceSub, i_lit, eq_self, and_true, true_and, and_self, not_true_eq_false, not_false_eq_true, or_true, true_or, or_false, false_or, false_and, and_false, reduceCtorEq, Nat.add_left_cancel_iff, Nat.add_zero, Nat.zero_add, md_all h, c2]; done)))
        | ((with_reducible refine e_o2 ?_ ej ?_); focus (first | with_reducible rfl | (simp (disch := omega) only [b_all, sV_all, ↓reduceIte, Nat.reduceEqDiff, Nat.reduceLT, Nat.reduceLeDiff, Nat.reduceAdd, Nat.reduceMul, Nat.reduceSub, i_lit, eq_self, and_true, true_and, and_self, not_true_eq_false, not_false_eq_true, or_true, true_or, or_false, false_or, false_and, and_false, reduceCtorEq, Nat.add_left_cancel_iff, Nat.add_zero, Nat.zero_add, md_all h, c2]; done)))
        | ((with_reducible refine e_o2 ?_ f0 ?_); focus (first | with_reducible rfl | (simp (disch := omega) only [b_all, sV_all, ↓reduceIte, Nat.reduceEqDiff, Nat.reduceLT, Nat.reduceLeDiff, Nat.reduceAdd, Nat.reduceMul, Nat.reduceSub, i_lit, eq_self, and_true, true_and, and_self, not_true_eq_false, not_false_eq_true, or_true, true_or, or_false, false_or, false_and, and_false, reduceCtorEq, Nat.add_left_cancel_iff, Nat.add_zero, Nat.zero_add, md_all h, c2]; done)))
        | ((with_reducible refine e_ip ?_ ?_); focus (simp (disch := omega) only [b_all, sV_all, ↓reduceIte, Nat.reduceEqDiff, Nat.reduceLT, Nat.reduceLeDiff, Nat.reduceAdd, Nat.reduceMul, Nat.reduceSub, i_lit, eq_self, and_true, true_and, and_self, not_true_eq_false, not_false_eq_true, or_true, true_or, or_false, false_or, false_and, and_false, reduceCtorEq, Nat.add_left_cancel_iff, Nat.add_zero, Nat.zero_add, md_all h, c2]; done))
        | ((with_reducible refine e_in ?_ ?_); focus (simp (disch := omega) only [b_all, sV_all, ↓reduceIte, Nat.reduceEqDiff, Nat.reduceLT, Nat.reduceLeDiff, Nat.reduceAdd, Nat.reduceMul, Nat.reduceSub, i_lit, eq_self, and_true, true_and, and_self, not_true_eq_false, not_false_eq_true, or_true, true_or, or_false, false_or, false_and, and_false, reduceCtorEq, Nat.add_left_cancel_iff, Nat.add_zero, Nat.zero_add, md_all h, c2]; done))
        | unfold fX5_change_29
        | unfold fX5_change_34
        | unfold fX5_change_74
        | fail)
      first | with_reducible rfl | simp (disch := omega) only [b_all, sV_all, ↓reduceIte, Nat.reduceEqDiff, Nat.reduceLT, Nat.reduceLeDiff, Nat.reduceAdd, Nat.reduceMul, Nat.reduceSub, i_lit, eq_self, and_true, true_and, and_self, not_true_eq_false, not_false_eq_true, or_true, true_or, or_false, false_or, false_and, and_false, reduceCtorEq, Nat.add_left_cancel_iff, Nat.add_zero, Nat.zero_add, md_all h, c2]
    · unfold fX5_change
      repeat (first
        | (with_reducible refine e_l1 ?_)
        | ((with_reducible refine e_k ?_ (mkM h) ?_); focus rfl)
        | ((with_reducible refine e_p ?_ (mp1 h) ?_); focus rfl)
        | ((with_reducible refine e_p ?_ (mp2 h) ?_); focus rfl)
        | ((with_reducible refine e_p ?_ (mp3 h) ?_); focus rfl)
        | ((with_reducible refine e_p ?_ (mp4 h) ?_); focus rfl)
        | ((with_reducible refine e_p ?_ (mp5 h) ?_); focus rfl)
        | ((with_reducible refine e_p ?_ (mp6 h) ?_); focus rfl)
        | ((with_reducible refine e_p ?_ (mp7 h) ?_); focus rfl)
        | ((with_reducible refine e_p ?_ (mp8 h) ?_); focus rfl)
        | ((with_reducible refine e_p ?_ (mp9 h) ?_); focus rfl)
        | ((with_reducible refine e_p ?_ (mp10 h) ?_); focus rfl)
        | ((with_reducible refine e_p ?_ (mp11 h) ?_); focus rfl)
        | ((with_reducible refine e_p ?_ (mp12 h) ?_); focus rfl)
        | ((with_reducible refine e_p ?_ (mp13 h) ?_); focus rfl)
        | ((with_reducible refine e_p ?_ (mp14 h) ?_); focus rfl)
        | ((with_reducible refine e_p ?_ (mp15 h) ?_); focus rfl)
        | ((with_reducible refine e_p ?_ (mp16 h) ?_); focus rfl)
        | ((with_reducible refine e_p ?_ (mp17 h) ?_); focus rfl)
        | ((with_reducible refine e_p ?_ (mp18 h) ?_); focus rfl)
        | ((with_reducible refine e_p ?_ (mp19 h) ?_); focus rfl)
        | ((with_reducible refine e_p ?_ (mp20 h) ?_); focus rfl)
        | ((with_reducible refine e_p ?_ (mp21 h) ?_); focus rfl)
        | ((with_reducible refine e_o2 ?_ ei ?_); focus (first | with_reducible rfl | (simp (disch := omega) only [b_all, sV_all, ↓reduceIte, Nat.reduceEqDiff, Nat.reduceLT, Nat.reduceLeDiff, Nat.reduceAdd, Nat.reduceMul, Nat.reduceSub, i_lit, eq_self, and_true, true_and, and_self, not_true_eq_false, not_false_eq_true, or_true, true_or, or_false, false_or, false_and, and_false, reduceCtorEq, Nat.add_left_cancel_iff, Nat.add_zero, Nat.zero_add, md_all h, c2]; done)))
        | ((with_reducible refine e_o2 ?_ ej ?_); focus (first | with_reducible rfl | (simp (disch := omega) only [b_all, sV_all, ↓reduceIte, Nat.reduceEqDiff, Nat.reduceLT, Nat.reduceLeDiff, Nat.reduceAdd, Nat.reduceMul, Nat.reduceSub, i_lit, eq_self, and_true, true_and, and_self, not_true_eq_false, not_false_eq_true, or_true, true_or, or_false, false_or, false_and, and_false, reduceCtorEq, Nat.add_left_cancel_iff, Nat.add_zero, Nat.zero_add, md_all h, c2]; done)))
        | ((with_reducible refine e_o2 ?_ f0 ?_); focus (first | with_reducible rfl | (simp (disch := omega) only [b_all, sV_all, ↓reduceIte, Nat.reduceEqDiff, Nat.reduceLT, Nat.reduceLeDiff, Nat.reduceAdd, Nat.reduceMul, Nat.reduceSub, i_lit, eq_self, and_true, true_and, and_self, not_true_eq_false, not_false_eq_true, or_true, true_or, or_false, false_or, false_and, and_false, reduceCtorEq, Nat.add_left_cancel_iff, Nat.add_zero, Nat.zero_add, md_all h, c2]; done)))
        | ((with_reducible refine e_ip ?_ ?_); focus (simp (disch := omega) only [b_all, sV_all, ↓reduceIte, Nat.reduceEqDiff, Nat.reduceLT, Nat.reduceLeDiff, Nat.reduceAdd, Nat.reduceMul, Nat.reduceSub, i_lit, eq_self, and_true, true_and, and_self, not_true_eq_false, not_false_eq_true, or_true, true_or, or_false, false_or, false_and, and_false, reduceCtorEq, Nat.add_left_cancel_iff, Nat.add_zero, Nat.zero_add, md_all h, c2]; done))
        | ((with_reducible refine e_in ?_ ?_); focus (simp (disch := omega) only [b_all, sV_all, ↓reduceIte, Nat.reduceEqDiff, Nat.reduceLT, Nat.reduceLeDiff, Nat.reduceAdd, Nat.reduceMul, Nat.reduceSub, i_lit, eq_self, and_true, true_and, and_self, not_true_eq_false, not_false_eq_true, or_true, true_or, or_false, false_or, false_and, and_false, reduceCtorEq, Nat.add_left_cancel_iff, Nat.add_zero, Nat.zero_add, md_all h, c2]; done))
        | unfold fX5_change_29
        | unfold fX5_change_34
        | unfold fX5_change_74
        | fail)
      first | with_reducible rfl | simp (disch := omega) only [b_all, sV_all, ↓reduceIte, Nat.reduceEqDiff, Nat.reduceLT, Nat.reduceLeDiff, Nat.reduceAdd, Nat.reduceMul, Nat.reduceSub, i_lit, eq_self, and_true, true_and, and_self, not_true_eq_false, not_false_eq_true, or_true, true_or, or_false, false_or, false_and, and_false, reduceCtorEq, Nat.add_left_cancel_iff, Nat.add_zero, Nat.zero_add, md_all h, c2]
  · unfold fX5_change
    repeat (first
      | (with_reducible refine e_l1 ?_)
      | ((with_reducible refine e_k ?_ (mkM h) ?_); focus rfl)
      | ((with_reducible refine e_p ?_ (mp1 h) ?_); focus rfl)
      | ((with_reducible refine e_p ?_ (mp2 h) ?_); focus rfl)
      | ((with_reducible refine e_p ?_ (mp3 h) ?_); focus rfl)
      | ((with_reducible refine e_p ?_ (mp4 h) ?_); focus rfl)
      | ((with_reducible refine e_p ?_ (mp5 h) ?_); focus rfl)
      | ((with_reducible refine e_p ?_ (mp6 h) ?_); focus rfl)
      | ((with_reducible refine e_p ?_ (mp7 h) ?_); focus rfl)
      | ((with_reducible refine e_p ?_ (mp8 h) ?_); focus rfl)
      | ((with_reducible refine e_p ?_ (mp9 h) ?_); focus rfl)
      | ((with_reducible refine e_p ?_ (mp10 h) ?_); focus rfl)
      | ((with_reducible refine e_p ?_ (mp11 h) ?_); focus rfl)
      | ((with_reducible refine e_p ?_ (mp12 h) ?_); focus rfl)
      | ((with_reducible refine e_p ?_ (mp13 h) ?_); focus rfl)
      | ((with_reducible refine e_p ?_ (mp14 h) ?_); focus rfl)
      | ((with_reducible refine e_p ?_ (mp15 h) ?_); focus rfl)
      | ((with_reducible refine e_p ?_ (mp16 h) ?_); focus rfl)
      | ((with_reducible refine e_p ?_ (mp17 h) ?_); focus rfl)
      | ((with_reducible refine e_p ?_ (mp18 h) ?_); focus rfl)
      | ((with_reducible refine e_p ?_ (mp19 h) ?_); focus rfl)
      | ((with_reducible refine e_p ?_ (mp20 h) ?_); focus rfl)
      | ((with_reducible refine e_p ?_ (mp21 h) ?_); focus rfl)
      | ((with_reducible refine e_o2 ?_ ei ?_); focus (first | with_reducible rfl | (simp (disch := omega) only [b_all, sV_all, ↓reduceIte, Nat.reduceEqDiff, Nat.reduceLT, Nat.reduceLeDiff, Nat.reduceAdd, Nat.reduceMul, Nat.reduceSub, i_lit, eq_self, and_true, true_and, and_self, not_true_eq_false, not_false_eq_true, or_true, true_or, or_false, false_or, false_and, and_false, reduceCtorEq, Nat.add_left_cancel_iff, Nat.add_zero, Nat.zero_add, md_all h]; done)))
      | ((with_reducible refine e_o2 ?_ ej ?_); focus (first | with_reducible rfl | (simp (disch := omega) only [b_all, sV_all, ↓reduceIte, Nat.reduceEqDiff, Nat.reduceLT, Nat.reduceLeDiff, Nat.reduceAdd, Nat.reduceMul, Nat.reduceSub, i_lit, eq_self, and_true, true_and, and_self, not_true_eq_false, not_false_eq_true, or_true, true_or, or_false, false_or, false_and, and_false, reduceCtorEq, Nat.add_left_cancel_iff, Nat.add_zero, Nat.zero_add, md_all h]; done)))
      | ((with_reducible refine e_o2 ?_ f0 ?_); focus (first | with_reducible rfl | (simp (disch := omega) only [b_all, sV_all, ↓reduceIte, Nat.reduceEqDiff, Nat.reduceLT, Nat.reduceLeDiff, Nat.reduceAdd, Nat.reduceMul, Nat.reduceSub, i_lit, eq_self, and_true, true_and, and_self, not_true_eq_false, not_false_eq_true, or_true, true_or, or_false, false_or, false_and, and_false, reduceCtorEq, Nat.add_left_cancel_iff, Nat.add_zero, Nat.zero_add, md_all h]; done)))
      | ((with_reducible refine e_ip ?_ ?_); focus (simp (disch := omega) only [b_all, sV_all, ↓reduceIte, Nat.reduceEqDiff, Nat.reduceLT, Nat.reduceLeDiff, Nat.reduceAdd, Nat.reduceMul, Nat.reduceSub, i_lit, eq_self, and_true, true_and, and_self, not_true_eq_false, not_false_eq_true, or_true, true_or, or_false, false_or, false_and, and_false, reduceCtorEq, Nat.add_left_cancel_iff, Nat.add_zero, Nat.zero_add, md_all h]; done))
      | ((with_reducible refine e_in ?_ ?_); focus (simp (disch := omega) only [b_all, sV_all, ↓reduceIte, Nat.reduceEqDiff, Nat.reduceLT, Nat.reduceLeDiff, Nat.reduceAdd, Nat.reduceMul, Nat.reduceSub, i_lit, eq_self, and_true, true_and, and_self, not_true_eq_false, not_false_eq_true, or_true, true_or, or_false, false_or, false_and, and_false, reduceCtorEq, Nat.add_left_cancel_iff, Nat.add_zero, Nat.zero_add, md_all h]; done))
      | unfold fX5_change_29
      | unfold fX5_change_34
      | unfold fX5_change_74
      | fail)
    first | with_reducible rfl | simp (disch := omega) only [b_all, sV_all, ↓reduceIte, Nat.reduceEqDiff, Nat.reduceLT, Nat.reduceLeDiff, Nat.reduceAdd, Nat.reduceMul, Nat.reduceSub, i_lit, eq_self, and_true, true_and, and_self, not_true_eq_false, not_false_eq_true, or_true, true_or, or_false, false_or, false_and, and_false, reduceCtorEq, Nat.add_left_cancel_iff, Nat.add_zero, Nat.zero_add, md_all h]
theorem m_change_ise (h : St x B C W M) (hb : Bd W) {t a e y : Nat} (ht : t < W 0 5) (ha : a < 5) (he : e < 8) (hy : y = 1 ∨ y = 4294967295) (hn : W 5 t ≠ 0 ∨ W 17 t = 20) : fX5_change x k (B + 25) (i32 t) (i32 a) (i32 e) (i32 y) M = some (i32 0, sV (sV M (B + 25) 27 (i32 0)) (B + 25) 27 (i32 2)) := by
  have h0 := hb.1
  have ei := s_isOne (k := k) h (a := t) (by omega) hb.1.2.2.1
  have ej := s_isElement (k := k) (x := x) (M := M) (a := a) (b := e) (by omega) (by omega)
  have f0 := s_fails0 (k := k) h 1
  have f1 := s_fails1 (k := k) (su0 h 27 0) 2
  have h5 : W 5 t < 5 := hb.r (by omega) t
  have h17 : W 17 t < 21 := hb.r (by omega) t
  by_cases cy : y = 1
  · by_cases c : W 5 t = 0
    · unfold fX5_change
      repeat (first
        | (with_reducible refine e_l1 ?_)
        | ((with_reducible refine e_k ?_ (mkM h) ?_); focus rfl)
        | ((with_reducible refine e_p ?_ (mp1 h) ?_); focus rfl)
        | ((with_reducible refine e_p ?_ (mp2 h) ?_); focus rfl)
        | ((with_reducible refine e_p ?_ (mp3 h) ?_); focus rfl)
        | ((with_reducible refine e_p ?_ (mp4 h) ?_); focus rfl)
        | ((with_reducible refine e_p ?_ (mp5 h) ?_); focus rfl)
        | ((with_reducible refine e_p ?_ (mp6 h) ?_); focus rfl)
        | ((with_reducible refine e_p ?_ (mp7 h) ?_); focus rfl)
        | ((with_reducible refine e_p ?_ (mp8 h) ?_); focus rfl)
        | ((with_reducible refine e_p ?_ (mp9 h) ?_); focus rfl)
        | ((with_reducible refine e_p ?_ (mp10 h) ?_); focus rfl)
        | ((with_reducible refine e_p ?_ (mp11 h) ?_); focus rfl)
        | ((with_reducible refine e_p ?_ (mp12 h) ?_); focus rfl)
        | ((with_reducible refine e_p ?_ (mp13 h) ?_); focus rfl)
        | ((with_reducible refine e_p ?_ (mp14 h) ?_); focus rfl)
        | ((with_reducible refine e_p ?_ (mp15 h) ?_); focus rfl)
        | ((with_reducible refine e_p ?_ (mp16 h) ?_); focus rfl)
        | ((with_reducible refine e_p ?_ (mp17 h) ?_); focus rfl)
        | ((with_reducible refine e_p ?_ (mp18 h) ?_); focus rfl)
        | ((with_reducible refine e_p ?_ (mp19 h) ?_); focus rfl)
        | ((with_reducible refine e_p ?_ (mp20 h) ?_); focus rfl)
        | ((with_reducible refine e_p ?_ (mp21 h) ?_); focus rfl)
        | ((with_reducible refine e_o2 ?_ ei ?_); focus (first | with_reducible rfl | (simp (disch := omega) only [b_all, sV_all, ↓reduceIte, Nat.reduceEqDiff, Nat.reduceLT, Nat.reduceLeDiff, Nat.reduceAdd, Nat.reduceMul, Nat.reduceSub, i_lit, eq_self, and_true, true_and, and_self, not_true_eq_false, not_false_eq_true, or_true, true_or, or_false, false_or, false_and, and_false, reduceCtorEq, Nat.add_left_cancel_iff, Nat.add_zero, Nat.zero_add, md_all h]; done)))
        | ((with_reducible refine e_o2 ?_ ej ?_); focus (first | with_reducible rfl | (simp (disch := omega) only [b_all, sV_all, ↓reduceIte, Nat.reduceEqDiff, Nat.reduceLT, Nat.reduceLeDiff, Nat.reduceAdd, Nat.reduceMul, Nat.reduceSub, i_lit, eq_self, and_true, true_and, and_self, not_true_eq_false, not_false_eq_true, or_true, true_or, or_false, false_or, false_and, and_false, reduceCtorEq, Nat.add_left_cancel_iff, Nat.add_zero, Nat.zero_add, md_all h]; done)))
        | ((with_reducible refine e_o2 ?_ f0 ?_); focus (first | with_reducible rfl | (simp (disch := omega) only [b_all, sV_all, ↓reduceIte, Nat.reduceEqDiff, Nat.reduceLT, Nat.reduceLeDiff, Nat.reduceAdd, Nat.reduceMul, Nat.reduceSub, i_lit, eq_self, and_true, true_and, and_self, not_true_eq_false, not_false_eq_true, or_true, true_or, or_false, false_or, false_and, and_false, reduceCtorEq, Nat.add_left_cancel_iff, Nat.add_zero, Nat.zero_add, md_all h]; done)))
        | ((with_reducible refine e_o2 ?_ f1 ?_); focus (first | with_reducible rfl | (simp (disch := omega) only [b_all, sV_all, ↓reduceIte, Nat.reduceEqDiff, Nat.reduceLT, Nat.reduceLeDiff, Nat.reduceAdd, Nat.reduceMul, Nat.reduceSub, i_lit, eq_self, and_true, true_and, and_self, not_true_eq_false, not_false_eq_true, or_true, true_or, or_false, false_or, false_and, and_false, reduceCtorEq, Nat.add_left_cancel_iff, Nat.add_zero, Nat.zero_add, md_all h]; done)))
        | ((with_reducible refine e_ip ?_ ?_); focus (simp (disch := omega) only [b_all, sV_all, ↓reduceIte, Nat.reduceEqDiff, Nat.reduceLT, Nat.reduceLeDiff, Nat.reduceAdd, Nat.reduceMul, Nat.reduceSub, i_lit, eq_self, and_true, true_and, and_self, not_true_eq_false, not_false_eq_true, or_true, true_or, or_false, false_or, false_and, and_false, reduceCtorEq, Nat.add_left_cancel_iff, Nat.add_zero, Nat.zero_add, md_all h]; done))
        | ((with_reducible refine e_in ?_ ?_); focus (simp (disch := omega) only [b_all, sV_all, ↓reduceIte, Nat.reduceEqDiff, Nat.reduceLT, Nat.reduceLeDiff, Nat.reduceAdd, Nat.reduceMul, Nat.reduceSub, i_lit, eq_self, and_true, true_and, and_self, not_true_eq_false, not_false_eq_true, or_true, true_or, or_false, false_or, false_and, and_false, reduceCtorEq, Nat.add_left_cancel_iff, Nat.add_zero, Nat.zero_add, md_all h]; done))
        | unfold fX5_change_33
        | unfold fX5_change_34
        | unfold fX5_change_62
        | unfold fX5_change_67
        | unfold fX5_change_74
        | fail)
      first | with_reducible rfl | simp (disch := omega) only [b_all, sV_all, ↓reduceIte, Nat.reduceEqDiff, Nat.reduceLT, Nat.reduceLeDiff, Nat.reduceAdd, Nat.reduceMul, Nat.reduceSub, i_lit, eq_self, and_true, true_and, and_self, not_true_eq_false, not_false_eq_true, or_true, true_or, or_false, false_or, false_and, and_false, reduceCtorEq, Nat.add_left_cancel_iff, Nat.add_zero, Nat.zero_add, md_all h]
    · unfold fX5_change
      repeat (first
        | (with_reducible refine e_l1 ?_)
        | ((with_reducible refine e_k ?_ (mkM h) ?_); focus rfl)
        | ((with_reducible refine e_p ?_ (mp1 h) ?_); focus rfl)
        | ((with_reducible refine e_p ?_ (mp2 h) ?_); focus rfl)
        | ((with_reducible refine e_p ?_ (mp3 h) ?_); focus rfl)
        | ((with_reducible refine e_p ?_ (mp4 h) ?_); focus rfl)
        | ((with_reducible refine e_p ?_ (mp5 h) ?_); focus rfl)
        | ((with_reducible refine e_p ?_ (mp6 h) ?_); focus rfl)
        | ((with_reducible refine e_p ?_ (mp7 h) ?_); focus rfl)
        | ((with_reducible refine e_p ?_ (mp8 h) ?_); focus rfl)
        | ((with_reducible refine e_p ?_ (mp9 h) ?_); focus rfl)
        | ((with_reducible refine e_p ?_ (mp10 h) ?_); focus rfl)
        | ((with_reducible refine e_p ?_ (mp11 h) ?_); focus rfl)
        | ((with_reducible refine e_p ?_ (mp12 h) ?_); focus rfl)
        | ((with_reducible refine e_p ?_ (mp13 h) ?_); focus rfl)
        | ((with_reducible refine e_p ?_ (mp14 h) ?_); focus rfl)
        | ((with_reducible refine e_p ?_ (mp15 h) ?_); focus rfl)
        | ((with_reducible refine e_p ?_ (mp16 h) ?_); focus rfl)
        | ((with_reducible refine e_p ?_ (mp17 h) ?_); focus rfl)
        | ((with_reducible refine e_p ?_ (mp18 h) ?_); focus rfl)
        | ((with_reducible refine e_p ?_ (mp19 h) ?_); focus rfl)
        | ((with_reducible refine e_p ?_ (mp20 h) ?_); focus rfl)
        | ((with_reducible refine e_p ?_ (mp21 h) ?_); focus rfl)
        | ((with_reducible refine e_o2 ?_ ei ?_); focus (first | with_reducible rfl | (simp (disch := omega) only [b_all, sV_all, ↓reduceIte, Nat.reduceEqDiff, Nat.reduceLT, Nat.reduceLeDiff, Nat.reduceAdd, Nat.reduceMul, Nat.reduceSub, i_lit, eq_self, and_true, true_and, and_self, not_true_eq_false, not_false_eq_true, or_true, true_or, or_false, false_or, false_and, and_false, reduceCtorEq, Nat.add_left_cancel_iff, Nat.add_zero, Nat.zero_add, md_all h]; done)))
        | ((with_reducible refine e_o2 ?_ ej ?_); focus (first | with_reducible rfl | (simp (disch := omega) only [b_all, sV_all, ↓reduceIte, Nat.reduceEqDiff, Nat.reduceLT, Nat.reduceLeDiff, Nat.reduceAdd, Nat.reduceMul, Nat.reduceSub, i_lit, eq_self, and_true, true_and, and_self, not_true_eq_false, not_false_eq_true, or_true, true_or, or_false, false_or, false_and, and_false, reduceCtorEq, Nat.add_left_cancel_iff, Nat.add_zero, Nat.zero_add, md_all h]; done)))
        | ((with_reducible refine e_o2 ?_ f0 ?_); focus (first | with_reducible rfl | (simp (disch := omega) only [b_all, sV_all, ↓reduceIte, Nat.reduceEqDiff, Nat.reduceLT, Nat.reduceLeDiff, Nat.reduceAdd, Nat.reduceMul, Nat.reduceSub, i_lit, eq_self, and_true, true_and, and_self, not_true_eq_false, not_false_eq_true, or_true, true_or, or_false, false_or, false_and, and_false, reduceCtorEq, Nat.add_left_cancel_iff, Nat.add_zero, Nat.zero_add, md_all h]; done)))
        | ((with_reducible refine e_o2 ?_ f1 ?_); focus (first | with_reducible rfl | (simp (disch := omega) only [b_all, sV_all, ↓reduceIte, Nat.reduceEqDiff, Nat.reduceLT, Nat.reduceLeDiff, Nat.reduceAdd, Nat.reduceMul, Nat.reduceSub, i_lit, eq_self, and_true, true_and, and_self, not_true_eq_false, not_false_eq_true, or_true, true_or, or_false, false_or, false_and, and_false, reduceCtorEq, Nat.add_left_cancel_iff, Nat.add_zero, Nat.zero_add, md_all h]; done)))
        | ((with_reducible refine e_ip ?_ ?_); focus (simp (disch := omega) only [b_all, sV_all, ↓reduceIte, Nat.reduceEqDiff, Nat.reduceLT, Nat.reduceLeDiff, Nat.reduceAdd, Nat.reduceMul, Nat.reduceSub, i_lit, eq_self, and_true, true_and, and_self, not_true_eq_false, not_false_eq_true, or_true, true_or, or_false, false_or, false_and, and_false, reduceCtorEq, Nat.add_left_cancel_iff, Nat.add_zero, Nat.zero_add, md_all h]; done))
        | ((with_reducible refine e_in ?_ ?_); focus (simp (disch := omega) only [b_all, sV_all, ↓reduceIte, Nat.reduceEqDiff, Nat.reduceLT, Nat.reduceLeDiff, Nat.reduceAdd, Nat.reduceMul, Nat.reduceSub, i_lit, eq_self, and_true, true_and, and_self, not_true_eq_false, not_false_eq_true, or_true, true_or, or_false, false_or, false_and, and_false, reduceCtorEq, Nat.add_left_cancel_iff, Nat.add_zero, Nat.zero_add, md_all h]; done))
        | unfold fX5_change_33
        | unfold fX5_change_34
        | unfold fX5_change_62
        | unfold fX5_change_67
        | unfold fX5_change_74
        | fail)
      first | with_reducible rfl | simp (disch := omega) only [b_all, sV_all, ↓reduceIte, Nat.reduceEqDiff, Nat.reduceLT, Nat.reduceLeDiff, Nat.reduceAdd, Nat.reduceMul, Nat.reduceSub, i_lit, eq_self, and_true, true_and, and_self, not_true_eq_false, not_false_eq_true, or_true, true_or, or_false, false_or, false_and, and_false, reduceCtorEq, Nat.add_left_cancel_iff, Nat.add_zero, Nat.zero_add, md_all h]
  · by_cases c : W 5 t = 0
    · unfold fX5_change
      repeat (first
        | (with_reducible refine e_l1 ?_)
        | ((with_reducible refine e_k ?_ (mkM h) ?_); focus rfl)
        | ((with_reducible refine e_p ?_ (mp1 h) ?_); focus rfl)
        | ((with_reducible refine e_p ?_ (mp2 h) ?_); focus rfl)
        | ((with_reducible refine e_p ?_ (mp3 h) ?_); focus rfl)
        | ((with_reducible refine e_p ?_ (mp4 h) ?_); focus rfl)
        | ((with_reducible refine e_p ?_ (mp5 h) ?_); focus rfl)
        | ((with_reducible refine e_p ?_ (mp6 h) ?_); focus rfl)
        | ((with_reducible refine e_p ?_ (mp7 h) ?_); focus rfl)
        | ((with_reducible refine e_p ?_ (mp8 h) ?_); focus rfl)
        | ((with_reducible refine e_p ?_ (mp9 h) ?_); focus rfl)
        | ((with_reducible refine e_p ?_ (mp10 h) ?_); focus rfl)
        | ((with_reducible refine e_p ?_ (mp11 h) ?_); focus rfl)
        | ((with_reducible refine e_p ?_ (mp12 h) ?_); focus rfl)
        | ((with_reducible refine e_p ?_ (mp13 h) ?_); focus rfl)
        | ((with_reducible refine e_p ?_ (mp14 h) ?_); focus rfl)
        | ((with_reducible refine e_p ?_ (mp15 h) ?_); focus rfl)
        | ((with_reducible refine e_p ?_ (mp16 h) ?_); focus rfl)
        | ((with_reducible refine e_p ?_ (mp17 h) ?_); focus rfl)
        | ((with_reducible refine e_p ?_ (mp18 h) ?_); focus rfl)
        | ((with_reducible refine e_p ?_ (mp19 h) ?_); focus rfl)
        | ((with_reducible refine e_p ?_ (mp20 h) ?_); focus rfl)
        | ((with_reducible refine e_p ?_ (mp21 h) ?_); focus rfl)
        | ((with_reducible refine e_o2 ?_ ei ?_); focus (first | with_reducible rfl | (simp (disch := omega) only [b_all, sV_all, ↓reduceIte, Nat.reduceEqDiff, Nat.reduceLT, Nat.reduceLeDiff, Nat.reduceAdd, Nat.reduceMul, Nat.reduceSub, i_lit, eq_self, and_true, true_and, and_self, not_true_eq_false, not_false_eq_true, or_true, true_or, or_false, false_or, false_and, and_false, reduceCtorEq, Nat.add_left_cancel_iff, Nat.add_zero, Nat.zero_add, md_all h]; done)))
        | ((with_reducible refine e_o2 ?_ ej ?_); focus (first | with_reducible rfl | (simp (disch := omega) only [b_all, sV_all, ↓reduceIte, Nat.reduceEqDiff, Nat.reduceLT, Nat.reduceLeDiff, Nat.reduceAdd, Nat.reduceMul, Nat.reduceSub, i_lit, eq_self, and_true, true_and, and_self, not_true_eq_false, not_false_eq_true, or_true, true_or, or_false, false_or, false_and, and_false, reduceCtorEq, Nat.add_left_cancel_iff, Nat.add_zero, Nat.zero_add, md_all h]; done)))
        | ((with_reducible refine e_o2 ?_ f0 ?_); focus (first | with_reducible rfl | (simp (disch := omega) only [b_all, sV_all, ↓reduceIte, Nat.reduceEqDiff, Nat.reduceLT, Nat.reduceLeDiff, Nat.reduceAdd, Nat.reduceMul, Nat.reduceSub, i_lit, eq_self, and_true, true_and, and_self, not_true_eq_false, not_false_eq_true, or_true, true_or, or_false, false_or, false_and, and_false, reduceCtorEq, Nat.add_left_cancel_iff, Nat.add_zero, Nat.zero_add, md_all h]; done)))
        | ((with_reducible refine e_o2 ?_ f1 ?_); focus (first | with_reducible rfl | (simp (disch := omega) only [b_all, sV_all, ↓reduceIte, Nat.reduceEqDiff, Nat.reduceLT, Nat.reduceLeDiff, Nat.reduceAdd, Nat.reduceMul, Nat.reduceSub, i_lit, eq_self, and_true, true_and, and_self, not_true_eq_false, not_false_eq_true, or_true, true_or, or_false, false_or, false_and, and_false, reduceCtorEq, Nat.add_left_cancel_iff, Nat.add_zero, Nat.zero_add, md_all h]; done)))
        | ((with_reducible refine e_ip ?_ ?_); focus (simp (disch := omega) only [b_all, sV_all, ↓reduceIte, Nat.reduceEqDiff, Nat.reduceLT, Nat.reduceLeDiff, Nat.reduceAdd, Nat.reduceMul, Nat.reduceSub, i_lit, eq_self, and_true, true_and, and_self, not_true_eq_false, not_false_eq_true, or_true, true_or, or_false, false_or, false_and, and_false, reduceCtorEq, Nat.add_left_cancel_iff, Nat.add_zero, Nat.zero_add, md_all h]; done))
        | ((with_reducible refine e_in ?_ ?_); focus (simp (disch := omega) only [b_all, sV_all, ↓reduceIte, Nat.reduceEqDiff, Nat.reduceLT, Nat.reduceLeDiff, Nat.reduceAdd, Nat.reduceMul, Nat.reduceSub, i_lit, eq_self, and_true, true_and, and_self, not_true_eq_false, not_false_eq_true, or_true, true_or, or_false, false_or, false_and, and_false, reduceCtorEq, Nat.add_left_cancel_iff, Nat.add_zero, Nat.zero_add, md_all h]; done))
        | unfold fX5_change_33
        | unfold fX5_change_34
        | unfold fX5_change_62
        | unfold fX5_change_67
        | unfold fX5_change_74
        | fail)
      first | with_reducible rfl | simp (disch := omega) only [b_all, sV_all, ↓reduceIte, Nat.reduceEqDiff, Nat.reduceLT, Nat.reduceLeDiff, Nat.reduceAdd, Nat.reduceMul, Nat.reduceSub, i_lit, eq_self, and_true, true_and, and_self, not_true_eq_false, not_false_eq_true, or_true, true_or, or_false, false_or, false_and, and_false, reduceCtorEq, Nat.add_left_cancel_iff, Nat.add_zero, Nat.zero_add, md_all h]
    · unfold fX5_change
      repeat (first
        | (with_reducible refine e_l1 ?_)
        | ((with_reducible refine e_k ?_ (mkM h) ?_); focus rfl)
        | ((with_reducible refine e_p ?_ (mp1 h) ?_); focus rfl)
        | ((with_reducible refine e_p ?_ (mp2 h) ?_); focus rfl)
        | ((with_reducible refine e_p ?_ (mp3 h) ?_); focus rfl)
        | ((with_reducible refine e_p ?_ (mp4 h) ?_); focus rfl)
        | ((with_reducible refine e_p ?_ (mp5 h) ?_); focus rfl)
        | ((with_reducible refine e_p ?_ (mp6 h) ?_); focus rfl)
        | ((with_reducible refine e_p ?_ (mp7 h) ?_); focus rfl)
        | ((with_reducible refine e_p ?_ (mp8 h) ?_); focus rfl)
        | ((with_reducible refine e_p ?_ (mp9 h) ?_); focus rfl)
        | ((with_reducible refine e_p ?_ (mp10 h) ?_); focus rfl)
        | ((with_reducible refine e_p ?_ (mp11 h) ?_); focus rfl)
        | ((with_reducible refine e_p ?_ (mp12 h) ?_); focus rfl)
        | ((with_reducible refine e_p ?_ (mp13 h) ?_); focus rfl)
        | ((with_reducible refine e_p ?_ (mp14 h) ?_); focus rfl)
        | ((with_reducible refine e_p ?_ (mp15 h) ?_); focus rfl)
        | ((with_reducible refine e_p ?_ (mp16 h) ?_); focus rfl)
        | ((with_reducible refine e_p ?_ (mp17 h) ?_); focus rfl)
        | ((with_reducible refine e_p ?_ (mp18 h) ?_); focus rfl)
        | ((with_reducible refine e_p ?_ (mp19 h) ?_); focus rfl)
        | ((with_reducible refine e_p ?_ (mp20 h) ?_); focus rfl)
        | ((with_reducible refine e_p ?_ (mp21 h) ?_); focus rfl)
        | ((with_reducible refine e_o2 ?_ ei ?_); focus (first | with_reducible rfl | (simp (disch := omega) only [b_all, sV_all, ↓reduceIte, Nat.reduceEqDiff, Nat.reduceLT, Nat.reduceLeDiff, Nat.reduceAdd, Nat.reduceMul, Nat.reduceSub, i_lit, eq_self, and_true, true_and, and_self, not_true_eq_false, not_false_eq_true, or_true, true_or, or_false, false_or, false_and, and_false, reduceCtorEq, Nat.add_left_cancel_iff, Nat.add_zero, Nat.zero_add, md_all h]; done)))
        | ((with_reducible refine e_o2 ?_ ej ?_); focus (first | with_reducible rfl | (simp (disch := omega) only [b_all, sV_all, ↓reduceIte, Nat.reduceEqDiff, Nat.reduceLT, Nat.reduceLeDiff, Nat.reduceAdd, Nat.reduceMul, Nat.reduceSub, i_lit, eq_self, and_true, true_and, and_self, not_true_eq_false, not_false_eq_true, or_true, true_or, or_false, false_or, false_and, and_false, reduceCtorEq, Nat.add_left_cancel_iff, Nat.add_zero, Nat.zero_add, md_all h]; done)))
        | ((with_reducible refine e_o2 ?_ f0 ?_); focus (first | with_reducible rfl | (simp (disch := omega) only [b_all, sV_all, ↓reduceIte, Nat.reduceEqDiff, Nat.reduceLT, Nat.reduceLeDiff, Nat.reduceAdd, Nat.reduceMul, Nat.reduceSub, i_lit, eq_self, and_true, true_and, and_self, not_true_eq_false, not_false_eq_true, or_true, true_or, or_false, false_or, false_and, and_false, reduceCtorEq, Nat.add_left_cancel_iff, Nat.add_zero, Nat.zero_add, md_all h]; done)))
        | ((with_reducible refine e_o2 ?_ f1 ?_); focus (first | with_reducible rfl | (simp (disch := omega) only [b_all, sV_all, ↓reduceIte, Nat.reduceEqDiff, Nat.reduceLT, Nat.reduceLeDiff, Nat.reduceAdd, Nat.reduceMul, Nat.reduceSub, i_lit, eq_self, and_true, true_and, and_self, not_true_eq_false, not_false_eq_true, or_true, true_or, or_false, false_or, false_and, and_false, reduceCtorEq, Nat.add_left_cancel_iff, Nat.add_zero, Nat.zero_add, md_all h]; done)))
        | ((with_reducible refine e_ip ?_ ?_); focus (simp (disch := omega) only [b_all, sV_all, ↓reduceIte, Nat.reduceEqDiff, Nat.reduceLT, Nat.reduceLeDiff, Nat.reduceAdd, Nat.reduceMul, Nat.reduceSub, i_lit, eq_self, and_true, true_and, and_self, not_true_eq_false, not_false_eq_true, or_true, true_or, or_false, false_or, false_and, and_false, reduceCtorEq, Nat.add_left_cancel_iff, Nat.add_zero, Nat.zero_add, md_all h]; done))
        | ((with_reducible refine e_in ?_ ?_); focus (simp (disch := omega) only [b_all, sV_all, ↓reduceIte, Nat.reduceEqDiff, Nat.reduceLT, Nat.reduceLeDiff, Nat.reduceAdd, Nat.reduceMul, Nat.reduceSub, i_lit, eq_self, and_true, true_and, and_self, not_true_eq_false, not_false_eq_true, or_true, true_or, or_false, false_or, false_and, and_false, reduceCtorEq, Nat.add_left_cancel_iff, Nat.add_zero, Nat.zero_add, md_all h]; done))
        | unfold fX5_change_33
        | unfold fX5_change_34
        | unfold fX5_change_62
        | unfold fX5_change_67
        | unfold fX5_change_74
        | fail)
      first | with_reducible rfl | simp (disch := omega) only [b_all, sV_all, ↓reduceIte, Nat.reduceEqDiff, Nat.reduceLT, Nat.reduceLeDiff, Nat.reduceAdd, Nat.reduceMul, Nat.reduceSub, i_lit, eq_self, and_true, true_and, and_self, not_true_eq_false, not_false_eq_true, or_true, true_or, or_false, false_or, false_and, and_false, reduceCtorEq, Nat.add_left_cancel_iff, Nat.add_zero, Nat.zero_add, md_all h]
def wChange (W : Ab) (t cell y : Nat) : Ab := U (U (U (t00 W) 15 (20 * t + W 17 t) cell) 16 (20 * t + W 17 t) y) 17 t (W 17 t + 1)
theorem m_change_ok (h : St x B C W M) (hb : Bd W) {t a e y : Nat} (ht : t < W 0 5) (ha : a < 5) (he : e < 8) (hy : y = 1 ∨ y = 4294967295) (hn : W 5 t = 0) (h17 : W 17 t < 20) : ∃ M', fX5_change x k (B + 25) (i32 t) (i32 a) (i32 e) (i32 y) M = some (i32 (W 17 t + 1), M') ∧ St x B C (wChange W t (8 * a + e) y) M' := by
  have h0 := hb.1
  have ei := s_isOne (k := k) h (a := t) (by omega) hb.1.2.2.1
  have ej := s_isElement (k := k) (x := x) (M := M) (a := a) (b := e) (by omega) (by omega)
  have f0 := s_fails0 (k := k) h 1
  have f1 := s_fails0 (k := k) (su0 h 27 0) 2
  have hM : St x B C (wChange W t (8 * a + e) y) _ := su17 (su16 (su15 (su0 (su0 h 27 0) 27 0) (20 * t + W 17 t) (8 * a + e)) (20 * t + W 17 t) y) t (W 17 t + 1)
  refine ⟨_, ?_, hM⟩
  by_cases cy : y = 1
  · unfold fX5_change
    repeat (first
      | (with_reducible refine e_l1 ?_)
      | ((with_reducible refine e_k ?_ (mkM h) ?_); focus rfl)
      | ((with_reducible refine e_p ?_ (mp1 h) ?_); focus rfl)
      | ((with_reducible refine e_p ?_ (mp2 h) ?_); focus rfl)
      | ((with_reducible refine e_p ?_ (mp3 h) ?_); focus rfl)
      | ((with_reducible refine e_p ?_ (mp4 h) ?_); focus rfl)
      | ((with_reducible refine e_p ?_ (mp5 h) ?_); focus rfl)
      | ((with_reducible refine e_p ?_ (mp6 h) ?_); focus rfl)
      | ((with_reducible refine e_p ?_ (mp7 h) ?_); focus rfl)
      | ((with_reducible refine e_p ?_ (mp8 h) ?_); focus rfl)
      | ((with_reducible refine e_p ?_ (mp9 h) ?_); focus rfl)
      | ((with_reducible refine e_p ?_ (mp10 h) ?_); focus rfl)
      | ((with_reducible refine e_p ?_ (mp11 h) ?_); focus rfl)
      | ((with_reducible refine e_p ?_ (mp12 h) ?_); focus rfl)
      | ((with_reducible refine e_p ?_ (mp13 h) ?_); focus rfl)
      | ((with_reducible refine e_p ?_ (mp14 h) ?_); focus rfl)
      | ((with_reducible refine e_p ?_ (mp15 h) ?_); focus rfl)
      | ((with_reducible refine e_p ?_ (mp16 h) ?_); focus rfl)
      | ((with_reducible refine e_p ?_ (mp17 h) ?_); focus rfl)
      | ((with_reducible refine e_p ?_ (mp18 h) ?_); focus rfl)
      | ((with_reducible refine e_p ?_ (mp19 h) ?_); focus rfl)
      | ((with_reducible refine e_p ?_ (mp20 h) ?_); focus rfl)
      | ((with_reducible refine e_p ?_ (mp21 h) ?_); focus rfl)
      | ((with_reducible refine e_o2 ?_ ei ?_); focus (first | with_reducible rfl | (simp (disch := omega) only [b_all, sV_all, ↓reduceIte, Nat.reduceEqDiff, Nat.reduceLT, Nat.reduceLeDiff, Nat.reduceAdd, Nat.reduceMul, Nat.reduceSub, i_lit, eq_self, and_true, true_and, and_self, not_true_eq_false, not_false_eq_true, or_true, true_or, or_false, false_or, false_and, and_false, reduceCtorEq, Nat.add_left_cancel_iff, Nat.add_zero, Nat.zero_add, md_all h]; done)))
      | ((with_reducible refine e_o2 ?_ ej ?_); focus (first | with_reducible rfl | (simp (disch := omega) only [b_all, sV_all, ↓reduceIte, Nat.reduceEqDiff, Nat.reduceLT, Nat.reduceLeDiff, Nat.reduceAdd, Nat.reduceMul, Nat.reduceSub, i_lit, eq_self, and_true, true_and, and_self, not_true_eq_false, not_false_eq_true, or_true, true_or, or_false, false_or, false_and, and_false, reduceCtorEq, Nat.add_left_cancel_iff, Nat.add_zero, Nat.zero_add, md_all h]; done)))
      | ((with_reducible refine e_o2 ?_ f0 ?_); focus (first | with_reducible rfl | (simp (disch := omega) only [b_all, sV_all, ↓reduceIte, Nat.reduceEqDiff, Nat.reduceLT, Nat.reduceLeDiff, Nat.reduceAdd, Nat.reduceMul, Nat.reduceSub, i_lit, eq_self, and_true, true_and, and_self, not_true_eq_false, not_false_eq_true, or_true, true_or, or_false, false_or, false_and, and_false, reduceCtorEq, Nat.add_left_cancel_iff, Nat.add_zero, Nat.zero_add, md_all h]; done)))
      | ((with_reducible refine e_o2 ?_ f1 ?_); focus (first | with_reducible rfl | (simp (disch := omega) only [b_all, sV_all, ↓reduceIte, Nat.reduceEqDiff, Nat.reduceLT, Nat.reduceLeDiff, Nat.reduceAdd, Nat.reduceMul, Nat.reduceSub, i_lit, eq_self, and_true, true_and, and_self, not_true_eq_false, not_false_eq_true, or_true, true_or, or_false, false_or, false_and, and_false, reduceCtorEq, Nat.add_left_cancel_iff, Nat.add_zero, Nat.zero_add, md_all h]; done)))
      | ((with_reducible refine e_ip ?_ ?_); focus (simp (disch := omega) only [b_all, sV_all, ↓reduceIte, Nat.reduceEqDiff, Nat.reduceLT, Nat.reduceLeDiff, Nat.reduceAdd, Nat.reduceMul, Nat.reduceSub, i_lit, eq_self, and_true, true_and, and_self, not_true_eq_false, not_false_eq_true, or_true, true_or, or_false, false_or, false_and, and_false, reduceCtorEq, Nat.add_left_cancel_iff, Nat.add_zero, Nat.zero_add, md_all h]; done))
      | ((with_reducible refine e_in ?_ ?_); focus (simp (disch := omega) only [b_all, sV_all, ↓reduceIte, Nat.reduceEqDiff, Nat.reduceLT, Nat.reduceLeDiff, Nat.reduceAdd, Nat.reduceMul, Nat.reduceSub, i_lit, eq_self, and_true, true_and, and_self, not_true_eq_false, not_false_eq_true, or_true, true_or, or_false, false_or, false_and, and_false, reduceCtorEq, Nat.add_left_cancel_iff, Nat.add_zero, Nat.zero_add, md_all h]; done))
      | unfold fX5_change_33
      | unfold fX5_change_34
      | unfold fX5_change_67
      | fail)
    first | with_reducible rfl | simp (disch := omega) only [b_all, sV_all, ↓reduceIte, Nat.reduceEqDiff, Nat.reduceLT, Nat.reduceLeDiff, Nat.reduceAdd, Nat.reduceMul, Nat.reduceSub, i_lit, eq_self, and_true, true_and, and_self, not_true_eq_false, not_false_eq_true, or_true, true_or, or_false, false_or, false_and, and_false, reduceCtorEq, Nat.add_left_cancel_iff, Nat.add_zero, Nat.zero_add, md_all h]
  · unfold fX5_change
    repeat (first
      | (with_reducible refine e_l1 ?_)
      | ((with_reducible refine e_k ?_ (mkM h) ?_); focus rfl)
      | ((with_reducible refine e_p ?_ (mp1 h) ?_); focus rfl)
      | ((with_reducible refine e_p ?_ (mp2 h) ?_); focus rfl)
      | ((with_reducible refine e_p ?_ (mp3 h) ?_); focus rfl)
      | ((with_reducible refine e_p ?_ (mp4 h) ?_); focus rfl)
      | ((with_reducible refine e_p ?_ (mp5 h) ?_); focus rfl)
      | ((with_reducible refine e_p ?_ (mp6 h) ?_); focus rfl)
      | ((with_reducible refine e_p ?_ (mp7 h) ?_); focus rfl)
      | ((with_reducible refine e_p ?_ (mp8 h) ?_); focus rfl)
      | ((with_reducible refine e_p ?_ (mp9 h) ?_); focus rfl)
      | ((with_reducible refine e_p ?_ (mp10 h) ?_); focus rfl)
      | ((with_reducible refine e_p ?_ (mp11 h) ?_); focus rfl)
      | ((with_reducible refine e_p ?_ (mp12 h) ?_); focus rfl)
      | ((with_reducible refine e_p ?_ (mp13 h) ?_); focus rfl)
      | ((with_reducible refine e_p ?_ (mp14 h) ?_); focus rfl)
      | ((with_reducible refine e_p ?_ (mp15 h) ?_); focus rfl)
      | ((with_reducible refine e_p ?_ (mp16 h) ?_); focus rfl)
      | ((with_reducible refine e_p ?_ (mp17 h) ?_); focus rfl)
      | ((with_reducible refine e_p ?_ (mp18 h) ?_); focus rfl)
      | ((with_reducible refine e_p ?_ (mp19 h) ?_); focus rfl)
      | ((with_reducible refine e_p ?_ (mp20 h) ?_); focus rfl)
      | ((with_reducible refine e_p ?_ (mp21 h) ?_); focus rfl)
      | ((with_reducible refine e_o2 ?_ ei ?_); focus (first | with_reducible rfl | (simp (disch := omega) only [b_all, sV_all, ↓reduceIte, Nat.reduceEqDiff, Nat.reduceLT, Nat.reduceLeDiff, Nat.reduceAdd, Nat.reduceMul, Nat.reduceSub, i_lit, eq_self, and_true, true_and, and_self, not_true_eq_false, not_false_eq_true, or_true, true_or, or_false, false_or, false_and, and_false, reduceCtorEq, Nat.add_left_cancel_iff, Nat.add_zero, Nat.zero_add, md_all h]; done)))
      | ((with_reducible refine e_o2 ?_ ej ?_); focus (first | with_reducible rfl | (simp (disch := omega) only [b_all, sV_all, ↓reduceIte, Nat.reduceEqDiff, Nat.reduceLT, Nat.reduceLeDiff, Nat.reduceAdd, Nat.reduceMul, Nat.reduceSub, i_lit, eq_self, and_true, true_and, and_self, not_true_eq_false, not_false_eq_true, or_true, true_or, or_false, false_or, false_and, and_false, reduceCtorEq, Nat.add_left_cancel_iff, Nat.add_zero, Nat.zero_add, md_all h]; done)))
      | ((with_reducible refine e_o2 ?_ f0 ?_); focus (first | with_reducible rfl | (simp (disch := omega) only [b_all, sV_all, ↓reduceIte, Nat.reduceEqDiff, Nat.reduceLT, Nat.reduceLeDiff, Nat.reduceAdd, Nat.reduceMul, Nat.reduceSub, i_lit, eq_self, and_true, true_and, and_self, not_true_eq_false, not_false_eq_true, or_true, true_or, or_false, false_or, false_and, and_false, reduceCtorEq, Nat.add_left_cancel_iff, Nat.add_zero, Nat.zero_add, md_all h]; done)))
      | ((with_reducible refine e_o2 ?_ f1 ?_); focus (first | with_reducible rfl | (simp (disch := omega) only [b_all, sV_all, ↓reduceIte, Nat.reduceEqDiff, Nat.reduceLT, Nat.reduceLeDiff, Nat.reduceAdd, Nat.reduceMul, Nat.reduceSub, i_lit, eq_self, and_true, true_and, and_self, not_true_eq_false, not_false_eq_true, or_true, true_or, or_false, false_or, false_and, and_false, reduceCtorEq, Nat.add_left_cancel_iff, Nat.add_zero, Nat.zero_add, md_all h]; done)))
      | ((with_reducible refine e_ip ?_ ?_); focus (simp (disch := omega) only [b_all, sV_all, ↓reduceIte, Nat.reduceEqDiff, Nat.reduceLT, Nat.reduceLeDiff, Nat.reduceAdd, Nat.reduceMul, Nat.reduceSub, i_lit, eq_self, and_true, true_and, and_self, not_true_eq_false, not_false_eq_true, or_true, true_or, or_false, false_or, false_and, and_false, reduceCtorEq, Nat.add_left_cancel_iff, Nat.add_zero, Nat.zero_add, md_all h]; done))
      | ((with_reducible refine e_in ?_ ?_); focus (simp (disch := omega) only [b_all, sV_all, ↓reduceIte, Nat.reduceEqDiff, Nat.reduceLT, Nat.reduceLeDiff, Nat.reduceAdd, Nat.reduceMul, Nat.reduceSub, i_lit, eq_self, and_true, true_and, and_self, not_true_eq_false, not_false_eq_true, or_true, true_or, or_false, false_or, false_and, and_false, reduceCtorEq, Nat.add_left_cancel_iff, Nat.add_zero, Nat.zero_add, md_all h]; done))
      | unfold fX5_change_33
      | unfold fX5_change_34
      | unfold fX5_change_67
      | fail)
    first | with_reducible rfl | simp (disch := omega) only [b_all, sV_all, ↓reduceIte, Nat.reduceEqDiff, Nat.reduceLT, Nat.reduceLeDiff, Nat.reduceAdd, Nat.reduceMul, Nat.reduceSub, i_lit, eq_self, and_true, true_and, and_self, not_true_eq_false, not_false_eq_true, or_true, true_or, or_false, false_or, false_and, and_false, reduceCtorEq, Nat.add_left_cancel_iff, Nat.add_zero, Nat.zero_add, md_all h]
end
