/-! X2_unlock -/
def fX2_unlock_25 (x9 : Cx) (k9 : Nat) (rec2 : Nat → Int32 → Int32 → Mm → Option (Unit × Mm)) (v0 : Nat) (v1 : Int32) (v2 : Int32) (M : Mm) : Option (Unit × Mm) :=
  rec2 v0 v1 (v2 + 1) M
set_option maxRecDepth 100000 in
set_option maxHeartbeats 4000000 in
theorem tX2_unlock_25 {x9 : Cx} {K : Ct} {k9 : Nat} {M0 M9 : Mm} {r9 : Unit} (hE : Ce x9 K RX2 cX2_unlock 3 none 0 0 "unlock" M0) {rec2 : Nat → Int32 → Int32 → Mm → Option (Unit × Mm)} (hrec2 : ∀ (v0 : Nat) (v1 : Int32) (v2 : Int32) (M : Mm), rec2 v0 v1 v2 M = some (r9, M9) → Go x9 K 3 (Qf x9 K M0 none M9) 2 [(0, .ref v0), (1, .int v1), (2, .int v2)] [] M) (v0 : Nat) (v1 : Int32) (v2 : Int32) (M : Mm) (h : fX2_unlock_25 x9 k9 rec2 v0 v1 v2 M = some (r9, M9)) : Go x9 K 3 (Qf x9 K M0 none M9) 25 [(0, .ref v0), (1, .int v1), (2, .int v2)] [] M := by
  have hC := hE.1
  have hnm := hE.2.2.2.2.2.2.2.1
  unfold fX2_unlock_25 at h
  refine go_iinc (q := 2) (v := (v2 + 1)) (lv' := [(2, .int (v2 + 1)), (0, .ref v0), (1, .int v1)]) hC dX2_unlock_25 rfl rfl (by decide) rfl ?_
  refine go_goto (t := 2) hC dX2_unlock_28 (by decide) ?_
  refine go_sub (lv' := [(0, .ref v0), (1, .int v1), (2, .int (v2 + 1))]) [1, 2, 0] rfl ?_
  exact hrec2 _ _ _ _ h
def fX2_unlock_2 (x9 : Cx) (k9 : Nat) : Nat → Nat → Int32 → Int32 → Mm → Option (Unit × Mm)
  | 0, _, _, _, _ => none
  | n9 + 1, v0, v1, v2, M => if (20 : Int32) ≤ v2 then some ((), M) else if mK M v0 = 3 then ob1 (mP M v0 2) (fun b3 => if mK M b3 = 8 ∧ ¬ (v2 < 0 ∨ mN M b3 ≤ (v2).toNatClampNeg) then if (mV M b3 (v2).toNatClampNeg) = v1 then if mK M v0 = 3 then ob1 (mP M v0 2) (fun b8 => if mK M b8 = 8 ∧ ¬ (v2 < 0 ∨ mN M b8 ≤ (v2).toNatClampNeg) then fX2_unlock_25 x9 k9 (fX2_unlock_2 x9 k9 n9) v0 v1 v2 (sV M b8 (v2).toNatClampNeg (-1 : Int32)) else none) else none else fX2_unlock_25 x9 k9 (fX2_unlock_2 x9 k9 n9) v0 v1 v2 M else none) else none
set_option maxRecDepth 100000 in
set_option maxHeartbeats 4000000 in
theorem tX2_unlock_2 {x9 : Cx} {K : Ct} {k9 : Nat} {M0 M9 : Mm} {r9 : Unit} (hE : Ce x9 K RX2 cX2_unlock 3 none 0 0 "unlock" M0) : ∀ (n9 : Nat) (v0 : Nat) (v1 : Int32) (v2 : Int32) (M : Mm), fX2_unlock_2 x9 k9 n9 v0 v1 v2 M = some (r9, M9) → Go x9 K 3 (Qf x9 K M0 none M9) 2 [(0, .ref v0), (1, .int v1), (2, .int v2)] [] M := by
  have hC := hE.1
  have hnm := hE.2.2.2.2.2.2.2.1
  intro n9
  induction n9 with
  | zero => intro _ _ _ _ h; cases h
  | succ n9 ih =>
    intro v0 v1 v2 M h
    rw [fX2_unlock_2] at h
    refine go_iload_n hC dX2_unlock_2 rfl 2 rfl ?_
    refine go_bipush hC dX2_unlock_3 (v := (20 : Int32)) (by decide +kernel) ?_
    refine go_icmp_ge (t := 31) hC dX2_unlock_5 (by decide) (fun c1 => ?_) (fun c1 => ?_)
    · have h := os_t h c1
      cases h
      exact go_vret hE dX2_unlock_31
    · have h := os_f h c1
      refine go_aload_n hC dX2_unlock_8 rfl 0 rfl ?_
      obtain ⟨h2, h⟩ := os_1 h
      obtain ⟨b3, h4, h⟩ := os_b h
      refine go_getR 2 hC h2 rfl rfl h4 (C := RX2) (T := TX2) (N := 5) rfl inlX2 (by decide) m_31 (Or.inl rfl) dX2_unlock_9 ?_
      refine go_iload_n hC dX2_unlock_12 rfl 2 rfl ?_
      obtain ⟨h5, h⟩ := os_1 h
      refine go_iald hC h5.1 h5.2 dX2_unlock_13 ?_
      refine go_iload_n hC dX2_unlock_14 rfl 1 rfl ?_
      refine go_icmp_ne (t := 25) hC dX2_unlock_15 (by decide) (fun c6 => ?_) (fun c6 => ?_)
      · have h := os_f h c6
        exact tX2_unlock_25 hE ih _ _ _ _ h
      · have h := os_t h c6
        refine go_aload_n hC dX2_unlock_18 rfl 0 rfl ?_
        obtain ⟨h7, h⟩ := os_1 h
        obtain ⟨b8, h9, h⟩ := os_b h
        refine go_getR 2 hC h7 rfl rfl h9 (C := RX2) (T := TX2) (N := 5) rfl inlX2 (by decide) m_31 (Or.inl rfl) dX2_unlock_19 ?_
        refine go_iload_n hC dX2_unlock_22 rfl 2 rfl ?_
        refine go_iconst hC dX2_unlock_23 (v := (-1 : Int32)) (by decide +kernel) ?_
        obtain ⟨h10, h⟩ := os_1 h
        refine go_iast hC h10.1 h10.2 dX2_unlock_24 ?_
        exact tX2_unlock_25 hE ih _ _ _ _ h
def fX2_unlock (x9 : Cx) (k9 : Nat) (v0 : Nat) (v1 : Int32) (M : Mm) : Option (Unit × Mm) :=
  fX2_unlock_2 x9 k9 k9 v0 v1 (0 : Int32) M
set_option maxRecDepth 100000 in
set_option maxHeartbeats 4000000 in
theorem tX2_unlock_0 {x9 : Cx} {K : Ct} {k9 : Nat} {M0 M9 : Mm} {r9 : Unit} (hE : Ce x9 K RX2 cX2_unlock 3 none 0 0 "unlock" M0) (v0 : Nat) (v1 : Int32) (M : Mm) (h : fX2_unlock x9 k9 v0 v1 M = some (r9, M9)) : Go x9 K 3 (Qf x9 K M0 none M9) 0 [(0, .ref v0), (1, .int v1)] [] M := by
  have hC := hE.1
  have hnm := hE.2.2.2.2.2.2.2.1
  unfold fX2_unlock at h
  refine go_iconst hC dX2_unlock_0 (v := (0 : Int32)) (by decide +kernel) ?_
  refine go_istore_n (lv' := [(2, .int (0 : Int32)), (0, .ref v0), (1, .int v1)]) hC dX2_unlock_1 rfl (by decide) rfl ?_
  refine go_sub (lv' := [(0, .ref v0), (1, .int v1), (2, .int (0 : Int32))]) [1, 2, 0] rfl ?_
  exact tX2_unlock_2 hE k9 _ _ _ _ h
theorem c_X2_unlock (l : Launch) {x9 : Cx} {k9 : Nat} {M M9 : Mm} {r9 : Unit} {v0 : Nat} {v1 : Int32} (h : fX2_unlock x9 k9 v0 v1 M = some (r9, M9)) : Fn l x9 yX2_unlock cX2_unlock 3 none 0 0 [.ref v0, .int v1] M none M9 :=
  Fn.of (by decide +kernel) (Nat.le_of_ble_eq_true rfl) rfl (fun K _ hE => tX2_unlock_0 hE _ _ _ h)
/-! X2_clear -/
def fX2_clear_32 (x9 : Cx) (k9 : Nat) : Nat → Nat → Int32 → Mm → Option (Unit × Mm)
  | 0, _, _, _ => none
  | n9 + 1, v0, v1, M => if (20 : Int32) ≤ v1 then some ((), M) else if mK M v0 = 3 then ob1 (mP M v0 2) (fun b3 => if mK M b3 = 8 ∧ ¬ (v1 < 0 ∨ mN M b3 ≤ (v1).toNatClampNeg) then fX2_clear_32 x9 k9 n9 v0 (v1 + 1) (sV M b3 (v1).toNatClampNeg (-1 : Int32)) else none) else none
set_option maxRecDepth 100000 in
set_option maxHeartbeats 4000000 in
theorem tX2_clear_32 {x9 : Cx} {K : Ct} {k9 : Nat} {M0 M9 : Mm} {r9 : Unit} (hE : Ce x9 K RX2 cX2_clear 2 none 0 0 "clear" M0) : ∀ (n9 : Nat) (v0 : Nat) (v1 : Int32) (M : Mm), fX2_clear_32 x9 k9 n9 v0 v1 M = some (r9, M9) → Go x9 K 2 (Qf x9 K M0 none M9) 32 [(0, .ref v0), (1, .int v1)] [] M := by
  have hC := hE.1
  have hnm := hE.2.2.2.2.2.2.2.1
  intro n9
  induction n9 with
  | zero => intro _ _ _ h; cases h
  | succ n9 ih =>
    intro v0 v1 M h
    rw [fX2_clear_32] at h
    refine go_iload_n hC dX2_clear_32 rfl 1 rfl ?_
    refine go_bipush hC dX2_clear_33 (v := (20 : Int32)) (by decide +kernel) ?_
    refine go_icmp_ge (t := 51) hC dX2_clear_35 (by decide) (fun c1 => ?_) (fun c1 => ?_)
    · have h := os_t h c1
      cases h
      exact go_vret hE dX2_clear_51
    · have h := os_f h c1
      refine go_aload_n hC dX2_clear_38 rfl 0 rfl ?_
      obtain ⟨h2, h⟩ := os_1 h
      obtain ⟨b3, h4, h⟩ := os_b h
      refine go_getR 2 hC h2 rfl rfl h4 (C := RX2) (T := TX2) (N := 5) rfl inlX2 (by decide) m_31 (Or.inl rfl) dX2_clear_39 ?_
      refine go_iload_n hC dX2_clear_42 rfl 1 rfl ?_
      refine go_iconst hC dX2_clear_43 (v := (-1 : Int32)) (by decide +kernel) ?_
      obtain ⟨h5, h⟩ := os_1 h
      refine go_iast hC h5.1 h5.2 dX2_clear_44 ?_
      refine go_iinc (q := 1) (v := (v1 + 1)) (lv' := [(1, .int (v1 + 1)), (0, .ref v0)]) hC dX2_clear_45 rfl rfl (by decide) rfl ?_
      refine go_goto (t := 32) hC dX2_clear_48 (by decide) ?_
      refine go_sub (lv' := [(0, .ref v0), (1, .int (v1 + 1))]) [1, 0] rfl ?_
      exact ih _ _ _ h
def fX2_clear_12 (x9 : Cx) (k9 : Nat) : Nat → Nat → Int32 → Mm → Option (Unit × Mm)
  | 0, _, _, _ => none
  | n9 + 1, v0, v1, M => if (5 : Int32) ≤ v1 then fX2_clear_32 x9 k9 k9 v0 (0 : Int32) M else if mK M v0 = 3 then ob1 (mP M v0 1) (fun b3 => if mK M b3 = 8 ∧ ¬ (v1 < 0 ∨ mN M b3 ≤ (v1).toNatClampNeg) then fX2_clear_12 x9 k9 n9 v0 (v1 + 1) (sV M b3 (v1).toNatClampNeg (0 : Int32)) else none) else none
set_option maxRecDepth 100000 in
set_option maxHeartbeats 4000000 in
theorem tX2_clear_12 {x9 : Cx} {K : Ct} {k9 : Nat} {M0 M9 : Mm} {r9 : Unit} (hE : Ce x9 K RX2 cX2_clear 2 none 0 0 "clear" M0) : ∀ (n9 : Nat) (v0 : Nat) (v1 : Int32) (M : Mm), fX2_clear_12 x9 k9 n9 v0 v1 M = some (r9, M9) → Go x9 K 2 (Qf x9 K M0 none M9) 12 [(0, .ref v0), (1, .int v1)] [] M := by
  have hC := hE.1
  have hnm := hE.2.2.2.2.2.2.2.1
  intro n9
  induction n9 with
  | zero => intro _ _ _ h; cases h
  | succ n9 ih =>
    intro v0 v1 M h
    rw [fX2_clear_12] at h
    refine go_iload_n hC dX2_clear_12 rfl 1 rfl ?_
    refine go_iconst hC dX2_clear_13 (v := (5 : Int32)) (by decide +kernel) ?_
    refine go_icmp_ge (t := 30) hC dX2_clear_14 (by decide) (fun c1 => ?_) (fun c1 => ?_)
    · have h := os_t h c1
      refine go_iconst hC dX2_clear_30 (v := (0 : Int32)) (by decide +kernel) ?_
      refine go_istore_n (lv' := [(1, .int (0 : Int32)), (0, .ref v0)]) hC dX2_clear_31 rfl (by decide) rfl ?_
      refine go_sub (lv' := [(0, .ref v0), (1, .int (0 : Int32))]) [1, 0] rfl ?_
      exact tX2_clear_32 hE k9 _ _ _ h
    · have h := os_f h c1
      refine go_aload_n hC dX2_clear_17 rfl 0 rfl ?_
      obtain ⟨h2, h⟩ := os_1 h
      obtain ⟨b3, h4, h⟩ := os_b h
      refine go_getR 1 hC h2 rfl rfl h4 (C := RX2) (T := TX2) (N := 5) rfl inlX2 (by decide) m_30 (Or.inl rfl) dX2_clear_18 ?_
      refine go_iload_n hC dX2_clear_21 rfl 1 rfl ?_
      refine go_iconst hC dX2_clear_22 (v := (0 : Int32)) (by decide +kernel) ?_
      obtain ⟨h5, h⟩ := os_1 h
      refine go_iast hC h5.1 h5.2 dX2_clear_23 ?_
      refine go_iinc (q := 1) (v := (v1 + 1)) (lv' := [(1, .int (v1 + 1)), (0, .ref v0)]) hC dX2_clear_24 rfl rfl (by decide) rfl ?_
      refine go_goto (t := 12) hC dX2_clear_27 (by decide) ?_
      refine go_sub (lv' := [(0, .ref v0), (1, .int (v1 + 1))]) [1, 0] rfl ?_
      exact ih _ _ _ h
def fX2_clear (x9 : Cx) (k9 : Nat) (v0 : Nat) (M : Mm) : Option (Unit × Mm) :=
  if mK M v0 = 3 ∧ ((1 : Int32) = 0 ∨ (1 : Int32) = 1) then if mK (sV M v0 0 (1 : Int32)) v0 = 3 then fX2_clear_12 x9 k9 k9 v0 (0 : Int32) (sV (sV M v0 0 (1 : Int32)) v0 4 (0 : Int32)) else none else none
set_option maxRecDepth 100000 in
set_option maxHeartbeats 4000000 in
theorem tX2_clear_0 {x9 : Cx} {K : Ct} {k9 : Nat} {M0 M9 : Mm} {r9 : Unit} (hE : Ce x9 K RX2 cX2_clear 2 none 0 0 "clear" M0) (v0 : Nat) (M : Mm) (h : fX2_clear x9 k9 v0 M = some (r9, M9)) : Go x9 K 2 (Qf x9 K M0 none M9) 0 [(0, .ref v0)] [] M := by
  have hC := hE.1
  have hnm := hE.2.2.2.2.2.2.2.1
  unfold fX2_clear at h
  refine go_aload_n hC dX2_clear_0 rfl 0 rfl ?_
  refine go_iconst hC dX2_clear_1 (v := (1 : Int32)) (by decide +kernel) ?_
  obtain ⟨h1, h⟩ := os_1 h
  refine go_putV 0 hC h1.1 rfl rfl (C := RX2) (T := TX2) (N := 5) rfl inlX2 tyX2 tyX2_ok nmX2 (by decide) m_62 (Or.inl rfl) (Or.inl rfl) (tyX2_ok 0 (by decide)) (nar_z h1.2) (fit_z h1.2) dX2_clear_2 ?_
  refine go_aload_n hC dX2_clear_5 rfl 0 rfl ?_
  refine go_iconst hC dX2_clear_6 (v := (0 : Int32)) (by decide +kernel) ?_
  obtain ⟨h2, h⟩ := os_1 h
  refine go_putV 4 hC h2 rfl rfl (C := RX2) (T := TX2) (N := 5) rfl inlX2 tyX2 tyX2_ok nmX2 (by decide) m_63 (Or.inl rfl) (Or.inl rfl) (tyX2_ok 4 (by decide)) rfl rfl dX2_clear_7 ?_
  refine go_iconst hC dX2_clear_10 (v := (0 : Int32)) (by decide +kernel) ?_
  refine go_istore_n (lv' := [(1, .int (0 : Int32)), (0, .ref v0)]) hC dX2_clear_11 rfl (by decide) rfl ?_
  refine go_sub (lv' := [(0, .ref v0), (1, .int (0 : Int32))]) [1, 0] rfl ?_
  exact tX2_clear_12 hE k9 _ _ _ h
theorem c_X2_clear (l : Launch) {x9 : Cx} {k9 : Nat} {M M9 : Mm} {r9 : Unit} {v0 : Nat} (h : fX2_clear x9 k9 v0 M = some (r9, M9)) : Fn l x9 yX2_clear cX2_clear 2 none 0 0 [.ref v0] M none M9 :=
  Fn.of (by decide +kernel) (Nat.le_of_ble_eq_true rfl) rfl (fun K _ hE => tX2_clear_0 hE _ _ h)
/-! X0_init -/
def fX0_init (x9 : Cx) (k9 : Nat) (v0 : Nat) (M : Mm) : Option (Unit × Mm) :=
  some ((), M)
set_option maxRecDepth 100000 in
set_option maxHeartbeats 4000000 in
theorem tX0_init_0 {x9 : Cx} {K : Ct} {k9 : Nat} {M0 M9 : Mm} {r9 : Unit} (hE : Ce x9 K RX0 cX0_init 1 none 1 20 "<init>" M0) (v0 : Nat) (M : Mm) (h : fX0_init x9 k9 v0 M = some (r9, M9)) : Go x9 K 1 (Qf x9 K M0 none M9) 0 [(0, .ref v0)] [] M := by
  have hC := hE.1
  have hnm := hE.2.2.2.2.2.2.2.1
  unfold fX0_init at h
  refine go_aload_n hC dX0_init_0 rfl 0 rfl ?_
  refine go_objInit hE m_50 m_11 m_12 dX0_init_1 (by decide) (by decide) (by simp [Value.category]) ?_
  cases h
  exact go_vret hE dX0_init_4
theorem c_X0_init (l : Launch) {x9 : Cx} {k9 : Nat} {M M9 : Mm} {r9 : Unit} {v0 : Nat} (h : fX0_init x9 k9 v0 M = some (r9, M9)) : Fn l x9 yX0_init cX0_init 1 none 1 20 [.ref v0] M none M9 :=
  Fn.of (by decide +kernel) (Nat.le_of_ble_eq_true rfl) rfl (fun K _ hE => tX0_init_0 hE _ _ h)
/-! X0_lookFor -/
def fX0_lookFor (x9 : Cx) (k9 : Nat) (v0 : Nat) (v1 : Int32) (M : Mm) : Option (Unit × Mm) :=
  if mK M v0 = 1 then if mK (sV M v0 0 v1) v0 = 1 then if mK (sV (sV M v0 0 v1) v0 1 (0 : Int32)) v0 = 1 then if mK (sV (sV (sV M v0 0 v1) v0 1 (0 : Int32)) v0 2 (0 : Int32)) v0 = 1 then lt1 (sV (sV (sV (sV M v0 0 v1) v0 1 (0 : Int32)) v0 2 (0 : Int32)) v0 3 (-1 : Int32)) (fun M5 => some ((), M5)) else none else none else none else none
set_option maxRecDepth 100000 in
set_option maxHeartbeats 4000000 in
theorem tX0_lookFor_0 {x9 : Cx} {K : Ct} {k9 : Nat} {M0 M9 : Mm} {r9 : Unit} (hE : Ce x9 K RX0 cX0_lookFor 2 none 0 0 "lookFor" M0) (v0 : Nat) (v1 : Int32) (M : Mm) (h : fX0_lookFor x9 k9 v0 v1 M = some (r9, M9)) : Go x9 K 2 (Qf x9 K M0 none M9) 0 [(0, .ref v0), (1, .int v1)] [] M := by
  have hC := hE.1
  have hnm := hE.2.2.2.2.2.2.2.1
  unfold fX0_lookFor at h
  refine go_aload_n hC dX0_lookFor_0 rfl 0 rfl ?_
  refine go_iload_n hC dX0_lookFor_1 rfl 1 rfl ?_
  obtain ⟨h1, h⟩ := os_1 h
  refine go_putV 0 hC h1 rfl rfl (C := RX0) (T := TX0) (N := 4) rfl inlX0 tyX0 tyX0_ok nmX0 (by decide) m_666 (Or.inl rfl) (Or.inl rfl) (tyX0_ok 0 (by decide)) rfl rfl dX0_lookFor_2 ?_
  refine go_aload_n hC dX0_lookFor_5 rfl 0 rfl ?_
  refine go_iconst hC dX0_lookFor_6 (v := (0 : Int32)) (by decide +kernel) ?_
  obtain ⟨h2, h⟩ := os_1 h
  refine go_putV 1 hC h2 rfl rfl (C := RX0) (T := TX0) (N := 4) rfl inlX0 tyX0 tyX0_ok nmX0 (by decide) m_667 (Or.inl rfl) (Or.inl rfl) (tyX0_ok 1 (by decide)) rfl rfl dX0_lookFor_7 ?_
  refine go_aload_n hC dX0_lookFor_10 rfl 0 rfl ?_
  refine go_iconst hC dX0_lookFor_11 (v := (0 : Int32)) (by decide +kernel) ?_
  obtain ⟨h3, h⟩ := os_1 h
  refine go_putV 2 hC h3 rfl rfl (C := RX0) (T := TX0) (N := 4) rfl inlX0 tyX0 tyX0_ok nmX0 (by decide) m_668 (Or.inl rfl) (Or.inl rfl) (tyX0_ok 2 (by decide)) rfl rfl dX0_lookFor_12 ?_
  refine go_aload_n hC dX0_lookFor_15 rfl 0 rfl ?_
  refine go_iconst hC dX0_lookFor_16 (v := (-1 : Int32)) (by decide +kernel) ?_
  obtain ⟨h4, h⟩ := os_1 h
  refine go_putV 3 hC h4 rfl rfl (C := RX0) (T := TX0) (N := 4) rfl inlX0 tyX0 tyX0_ok nmX0 (by decide) m_669 (Or.inl rfl) (Or.inl rfl) (tyX0_ok 3 (by decide)) rfl rfl dX0_lookFor_17 ?_
  obtain ⟨M5, e6, h⟩ := os_l h
  refine go_eq (pc' := 20) (st' := []) (M' := M5) (lv' := [(0, .ref v0), (1, .int v1)]) ?_ rfl rfl rfl e6
  cases h
  exact go_vret hE dX0_lookFor_20
theorem c_X0_lookFor (l : Launch) {x9 : Cx} {k9 : Nat} {M M9 : Mm} {r9 : Unit} {v0 : Nat} {v1 : Int32} (h : fX0_lookFor x9 k9 v0 v1 M = some (r9, M9)) : Fn l x9 yX0_lookFor cX0_lookFor 2 none 0 0 [.ref v0, .int v1] M none M9 :=
  Fn.of (by decide +kernel) (Nat.le_of_ble_eq_true rfl) rfl (fun K _ hE => tX0_lookFor_0 hE _ _ _ h)
/-! X0_put -/
def fX0_put_22 (x9 : Cx) (k9 : Nat) (v0 : Nat) (v2 : Int32) (M : Mm) : Option (Unit × Mm) :=
  if mK M v0 = 1 then if mK M v0 = 1 then if mK (sV M v0 1 ((mV M v0 1) + (1 : Int32))) v0 = 1 then if mK (sV M v0 1 ((mV M v0 1) + (1 : Int32))) v0 = 1 then if mK (sV M v0 1 ((mV M v0 1) + (1 : Int32))) v0 = 1 then lt1 (sV (sV M v0 1 ((mV M v0 1) + (1 : Int32))) v0 2 (((((mV (sV M v0 1 ((mV M v0 1) + (1 : Int32))) v0 2) <<< ((3 : Int32) &&& 31)) ||| ((mV (sV M v0 1 ((mV M v0 1) + (1 : Int32))) v0 2) >>> ((13 : Int32) &&& 31))) &&& (65535 : Int32)) ^^^ v2)) (fun M6 => some ((), M6)) else none else none else none else none else none
set_option maxRecDepth 100000 in
set_option maxHeartbeats 4000000 in
theorem tX0_put_22 {x9 : Cx} {K : Ct} {k9 : Nat} {M0 M9 : Mm} {r9 : Unit} (hE : Ce x9 K RX0 cX0_put 3 none 0 0 "put" M0) (v0 : Nat) (v2 : Int32) (M : Mm) (h : fX0_put_22 x9 k9 v0 v2 M = some (r9, M9)) : Go x9 K 3 (Qf x9 K M0 none M9) 22 [(0, .ref v0), (2, .int v2)] [] M := by
  have hC := hE.1
  have hnm := hE.2.2.2.2.2.2.2.1
  unfold fX0_put_22 at h
  refine go_aload_n hC dX0_put_22 rfl 0 rfl ?_
  refine go_dup hC dX0_put_23 rfl ?_
  obtain ⟨h1, h⟩ := os_1 h
  refine go_getV 1 hC h1 rfl rfl (C := RX0) (T := TX0) (N := 4) rfl inlX0 (by decide) m_667 (Or.inl rfl) dX0_put_24 ?_
  refine go_iconst hC dX0_put_27 (v := (1 : Int32)) (by decide +kernel) ?_
  refine go_iadd hC dX0_put_28 ?_
  obtain ⟨h2, h⟩ := os_1 h
  refine go_putV 1 hC h2 rfl rfl (C := RX0) (T := TX0) (N := 4) rfl inlX0 tyX0 tyX0_ok nmX0 (by decide) m_667 (Or.inl rfl) (Or.inl rfl) (tyX0_ok 1 (by decide)) rfl rfl dX0_put_29 ?_
  refine go_aload_n hC dX0_put_32 rfl 0 rfl ?_
  refine go_aload_n hC dX0_put_33 rfl 0 rfl ?_
  obtain ⟨h3, h⟩ := os_1 h
  refine go_getV 2 hC h3 rfl rfl (C := RX0) (T := TX0) (N := 4) rfl inlX0 (by decide) m_668 (Or.inl rfl) dX0_put_34 ?_
  refine go_iconst hC dX0_put_37 (v := (3 : Int32)) (by decide +kernel) ?_
  refine go_ishl hC dX0_put_38 ?_
  refine go_aload_n hC dX0_put_39 rfl 0 rfl ?_
  obtain ⟨h4, h⟩ := os_1 h
  refine go_getV 2 hC h4 rfl rfl (C := RX0) (T := TX0) (N := 4) rfl inlX0 (by decide) m_668 (Or.inl rfl) dX0_put_40 ?_
  refine go_bipush hC dX0_put_43 (v := (13 : Int32)) (by decide +kernel) ?_
  refine go_ishr hC dX0_put_45 ?_
  refine go_ior hC dX0_put_46 ?_
  refine go_ldc hC (v := (65535 : Int32)) m_678 dX0_put_47 ?_
  refine go_iand hC dX0_put_49 ?_
  refine go_iload_n hC dX0_put_50 rfl 1 rfl ?_
  refine go_ixor hC dX0_put_51 ?_
  obtain ⟨h5, h⟩ := os_1 h
  refine go_putV 2 hC h5 rfl rfl (C := RX0) (T := TX0) (N := 4) rfl inlX0 tyX0 tyX0_ok nmX0 (by decide) m_668 (Or.inl rfl) (Or.inl rfl) (tyX0_ok 2 (by decide)) rfl rfl dX0_put_52 ?_
  obtain ⟨M6, e7, h⟩ := os_l h
  refine go_eq (pc' := 55) (st' := []) (M' := M6) (lv' := [(0, .ref v0), (2, .int v2)]) ?_ rfl rfl rfl e7
  cases h
  exact go_vret hE dX0_put_55
def fX0_put (x9 : Cx) (k9 : Nat) (v0 : Nat) (v1 : Int32) (M : Mm) : Option (Unit × Mm) :=
  if mK M v0 = 1 then if mK M v0 = 1 then if (mV M v0 1) = (mV M v0 0) then if mK M v0 = 1 then fX0_put_22 x9 k9 v0 (v1 &&& (255 : Int32)) (sV M v0 3 (v1 &&& (255 : Int32))) else none else fX0_put_22 x9 k9 v0 (v1 &&& (255 : Int32)) M else none else none
set_option maxRecDepth 100000 in
set_option maxHeartbeats 4000000 in
theorem tX0_put_0 {x9 : Cx} {K : Ct} {k9 : Nat} {M0 M9 : Mm} {r9 : Unit} (hE : Ce x9 K RX0 cX0_put 3 none 0 0 "put" M0) (v0 : Nat) (v1 : Int32) (M : Mm) (h : fX0_put x9 k9 v0 v1 M = some (r9, M9)) : Go x9 K 3 (Qf x9 K M0 none M9) 0 [(0, .ref v0), (1, .int v1)] [] M := by
  have hC := hE.1
  have hnm := hE.2.2.2.2.2.2.2.1
  unfold fX0_put at h
  refine go_iload_n hC dX0_put_0 rfl 1 rfl ?_
  refine go_sipush hC dX0_put_1 (v := (255 : Int32)) (by decide +kernel) ?_
  refine go_iand hC dX0_put_4 ?_
  refine go_istore_n (lv' := [(2, .int (v1 &&& (255 : Int32))), (0, .ref v0), (1, .int v1)]) hC dX0_put_5 rfl (by decide) rfl ?_
  refine go_aload_n hC dX0_put_6 rfl 1 rfl ?_
  obtain ⟨h1, h⟩ := os_1 h
  refine go_getV 1 hC h1 rfl rfl (C := RX0) (T := TX0) (N := 4) rfl inlX0 (by decide) m_667 (Or.inl rfl) dX0_put_7 ?_
  refine go_aload_n hC dX0_put_10 rfl 1 rfl ?_
  obtain ⟨h2, h⟩ := os_1 h
  refine go_getV 0 hC h2 rfl rfl (C := RX0) (T := TX0) (N := 4) rfl inlX0 (by decide) m_666 (Or.inl rfl) dX0_put_11 ?_
  refine go_icmp_ne (t := 22) hC dX0_put_14 (by decide) (fun c3 => ?_) (fun c3 => ?_)
  · have h := os_f h c3
    refine go_sub (lv' := [(0, .ref v0), (2, .int (v1 &&& (255 : Int32)))]) [1, 0] rfl ?_
    exact tX0_put_22 hE _ _ _ h
  · have h := os_t h c3
    refine go_aload_n hC dX0_put_17 rfl 1 rfl ?_
    refine go_iload_n hC dX0_put_18 rfl 0 rfl ?_
    obtain ⟨h4, h⟩ := os_1 h
    refine go_putV 3 hC h4 rfl rfl (C := RX0) (T := TX0) (N := 4) rfl inlX0 tyX0 tyX0_ok nmX0 (by decide) m_669 (Or.inl rfl) (Or.inl rfl) (tyX0_ok 3 (by decide)) rfl rfl dX0_put_19 ?_
    refine go_sub (lv' := [(0, .ref v0), (2, .int (v1 &&& (255 : Int32)))]) [1, 0] rfl ?_
    exact tX0_put_22 hE _ _ _ h
theorem c_X0_put (l : Launch) {x9 : Cx} {k9 : Nat} {M M9 : Mm} {r9 : Unit} {v0 : Nat} {v1 : Int32} (h : fX0_put x9 k9 v0 v1 M = some (r9, M9)) : Fn l x9 yX0_put cX0_put 3 none 0 0 [.ref v0, .int v1] M none M9 :=
  Fn.of (by decide +kernel) (Nat.le_of_ble_eq_true rfl) rfl (fun K _ hE => tX0_put_0 hE _ _ _ h)
/-! X0_putTwo -/
def fX0_putTwo (x9 : Cx) (k9 : Nat) (v0 : Nat) (v1 : Int32) (M : Mm) : Option (Unit × Mm) :=
  if mK M v0 = 1 then ob2 (fX0_put x9 k9 v0 (v1 >>> ((8 : Int32) &&& 31)) M) (fun r1 M2 => if mK M2 v0 = 1 then ob2 (fX0_put x9 k9 v0 v1 M2) (fun r5 M6 => some ((), M6)) else none) else none
set_option maxRecDepth 100000 in
set_option maxHeartbeats 4000000 in
theorem tX0_putTwo_0 {x9 : Cx} {K : Ct} {k9 : Nat} {M0 M9 : Mm} {r9 : Unit} (hE : Ce x9 K RX0 cX0_putTwo 2 none 1 22 "putTwo" M0) (v0 : Nat) (v1 : Int32) (M : Mm) (h : fX0_putTwo x9 k9 v0 v1 M = some (r9, M9)) : Go x9 K 2 (Qf x9 K M0 none M9) 0 [(0, .ref v0), (1, .int v1)] [] M := by
  have hC := hE.1
  have hnm := hE.2.2.2.2.2.2.2.1
  unfold fX0_putTwo at h
  refine go_aload_n hC dX0_putTwo_0 rfl 0 rfl ?_
  refine go_iload_n hC dX0_putTwo_1 rfl 1 rfl ?_
  refine go_bipush hC dX0_putTwo_2 (v := (8 : Int32)) (by decide +kernel) ?_
  refine go_ishr hC dX0_putTwo_4 ?_
  obtain ⟨h4, h⟩ := os_1 h
  obtain ⟨r1, M2, h3, h⟩ := os_c h
  refine go_callV (bytes := cX0_put) (maxL := 3) (ret := none) (n := 1) (As := [.int (v1 >>> ((8 : Int32) &&& 31))]) (st := []) hE (c_X0_put K.2.1 h3) (by unfold okY; decide +kernel) rfl h4 rfl (C := RX0) (T := TX0) (N := 4) rfl m_677 m_683 m_675 m_676 m_24 rfl (by simp [Value.category]) (by decide) (by decide) dX0_putTwo_5 ?_
  refine go_eq (pc' := 8) (st' := []) (M' := M2) (lv' := [(0, .ref v0), (1, .int v1)]) ?_ rfl rfl rfl rfl
  refine go_aload_n hC dX0_putTwo_8 rfl 0 rfl ?_
  refine go_iload_n hC dX0_putTwo_9 rfl 1 rfl ?_
  obtain ⟨h8, h⟩ := os_1 h
  obtain ⟨r5, M6, h7, h⟩ := os_c h
  refine go_callV (bytes := cX0_put) (maxL := 3) (ret := none) (n := 1) (As := [.int v1]) (st := []) hE (c_X0_put K.2.1 h7) (by unfold okY; decide +kernel) rfl h8 rfl (C := RX0) (T := TX0) (N := 4) rfl m_677 m_683 m_675 m_676 m_24 rfl (by simp [Value.category]) (by decide) (by decide) dX0_putTwo_10 ?_
  refine go_eq (pc' := 13) (st' := []) (M' := M6) (lv' := [(0, .ref v0), (1, .int v1)]) ?_ rfl rfl rfl rfl
  cases h
  exact go_vret hE dX0_putTwo_13
theorem c_X0_putTwo (l : Launch) {x9 : Cx} {k9 : Nat} {M M9 : Mm} {r9 : Unit} {v0 : Nat} {v1 : Int32} (h : fX0_putTwo x9 k9 v0 v1 M = some (r9, M9)) : Fn l x9 yX0_putTwo cX0_putTwo 2 none 1 22 [.ref v0, .int v1] M none M9 :=
  Fn.of (by decide +kernel) (Nat.le_of_ble_eq_true rfl) rfl (fun K _ hE => tX0_putTwo_0 hE _ _ _ h)
/-! X0_putFour -/
def fX0_putFour (x9 : Cx) (k9 : Nat) (v0 : Nat) (v1 : Int32) (M : Mm) : Option (Unit × Mm) :=
  if mK M v0 = 1 then ob2 (fX0_putTwo x9 k9 v0 (v1 >>> ((16 : Int32) &&& 31)) M) (fun r1 M2 => if mK M2 v0 = 1 then ob2 (fX0_putTwo x9 k9 v0 v1 M2) (fun r5 M6 => some ((), M6)) else none) else none
set_option maxRecDepth 100000 in
set_option maxHeartbeats 4000000 in
theorem tX0_putFour_0 {x9 : Cx} {K : Ct} {k9 : Nat} {M0 M9 : Mm} {r9 : Unit} (hE : Ce x9 K RX0 cX0_putFour 2 none 2 43 "putFour" M0) (v0 : Nat) (v1 : Int32) (M : Mm) (h : fX0_putFour x9 k9 v0 v1 M = some (r9, M9)) : Go x9 K 2 (Qf x9 K M0 none M9) 0 [(0, .ref v0), (1, .int v1)] [] M := by
  have hC := hE.1
  have hnm := hE.2.2.2.2.2.2.2.1
  unfold fX0_putFour at h
  refine go_aload_n hC dX0_putFour_0 rfl 0 rfl ?_
  refine go_iload_n hC dX0_putFour_1 rfl 1 rfl ?_
  refine go_bipush hC dX0_putFour_2 (v := (16 : Int32)) (by decide +kernel) ?_
  refine go_ishr hC dX0_putFour_4 ?_
  obtain ⟨h4, h⟩ := os_1 h
  obtain ⟨r1, M2, h3, h⟩ := os_c h
  refine go_callV (bytes := cX0_putTwo) (maxL := 2) (ret := none) (n := 1) (As := [.int (v1 >>> ((16 : Int32) &&& 31))]) (st := []) hE (c_X0_putTwo K.2.1 h3) (by unfold okY; decide +kernel) rfl h4 rfl (C := RX0) (T := TX0) (N := 4) rfl m_682 m_700 m_680 m_681 m_24 rfl (by simp [Value.category]) (by decide) (by decide) dX0_putFour_5 ?_
  refine go_eq (pc' := 8) (st' := []) (M' := M2) (lv' := [(0, .ref v0), (1, .int v1)]) ?_ rfl rfl rfl rfl
  refine go_aload_n hC dX0_putFour_8 rfl 0 rfl ?_
  refine go_iload_n hC dX0_putFour_9 rfl 1 rfl ?_
  obtain ⟨h8, h⟩ := os_1 h
  obtain ⟨r5, M6, h7, h⟩ := os_c h
  refine go_callV (bytes := cX0_putTwo) (maxL := 2) (ret := none) (n := 1) (As := [.int v1]) (st := []) hE (c_X0_putTwo K.2.1 h7) (by unfold okY; decide +kernel) rfl h8 rfl (C := RX0) (T := TX0) (N := 4) rfl m_682 m_700 m_680 m_681 m_24 rfl (by simp [Value.category]) (by decide) (by decide) dX0_putFour_10 ?_
  refine go_eq (pc' := 13) (st' := []) (M' := M6) (lv' := [(0, .ref v0), (1, .int v1)]) ?_ rfl rfl rfl rfl
  cases h
  exact go_vret hE dX0_putFour_13
theorem c_X0_putFour (l : Launch) {x9 : Cx} {k9 : Nat} {M M9 : Mm} {r9 : Unit} {v0 : Nat} {v1 : Int32} (h : fX0_putFour x9 k9 v0 v1 M = some (r9, M9)) : Fn l x9 yX0_putFour cX0_putFour 2 none 2 43 [.ref v0, .int v1] M none M9 :=
  Fn.of (by decide +kernel) (Nat.le_of_ble_eq_true rfl) rfl (fun K _ hE => tX0_putFour_0 hE _ _ _ h)
/-! X0_putCheck -/
def fX0_putCheck (x9 : Cx) (k9 : Nat) (v0 : Nat) (M : Mm) : Option (Unit × Mm) :=
  if mK M v0 = 1 then if mK M v0 = 1 then ob2 (fX0_putTwo x9 k9 v0 (mV M v0 2) M) (fun r2 M3 => some ((), M3)) else none else none
set_option maxRecDepth 100000 in
set_option maxHeartbeats 4000000 in
theorem tX0_putCheck_0 {x9 : Cx} {K : Ct} {k9 : Nat} {M0 M9 : Mm} {r9 : Unit} (hE : Ce x9 K RX0 cX0_putCheck 1 none 2 43 "putCheck" M0) (v0 : Nat) (M : Mm) (h : fX0_putCheck x9 k9 v0 M = some (r9, M9)) : Go x9 K 1 (Qf x9 K M0 none M9) 0 [(0, .ref v0)] [] M := by
  have hC := hE.1
  have hnm := hE.2.2.2.2.2.2.2.1
  unfold fX0_putCheck at h
  refine go_aload_n hC dX0_putCheck_0 rfl 0 rfl ?_
  refine go_aload_n hC dX0_putCheck_1 rfl 0 rfl ?_
  obtain ⟨h1, h⟩ := os_1 h
  refine go_getV 2 hC h1 rfl rfl (C := RX0) (T := TX0) (N := 4) rfl inlX0 (by decide) m_668 (Or.inl rfl) dX0_putCheck_2 ?_
  obtain ⟨h5, h⟩ := os_1 h
  obtain ⟨r2, M3, h4, h⟩ := os_c h
  refine go_callV (bytes := cX0_putTwo) (maxL := 2) (ret := none) (n := 1) (As := [.int (mV M v0 2)]) (st := []) hE (c_X0_putTwo K.2.1 h4) (by unfold okY; decide +kernel) rfl h5 rfl (C := RX0) (T := TX0) (N := 4) rfl m_682 m_700 m_680 m_681 m_24 rfl (by simp [Value.category]) (by decide) (by decide) dX0_putCheck_5 ?_
  refine go_eq (pc' := 8) (st' := []) (M' := M3) (lv' := [(0, .ref v0)]) ?_ rfl rfl rfl rfl
  cases h
  exact go_vret hE dX0_putCheck_8
theorem c_X0_putCheck (l : Launch) {x9 : Cx} {k9 : Nat} {M M9 : Mm} {r9 : Unit} {v0 : Nat} (h : fX0_putCheck x9 k9 v0 M = some (r9, M9)) : Fn l x9 yX0_putCheck cX0_putCheck 1 none 2 43 [.ref v0] M none M9 :=
  Fn.of (by decide +kernel) (Nat.le_of_ble_eq_true rfl) rfl (fun K _ hE => tX0_putCheck_0 hE _ _ h)
/-! X1_kind -/
def fX1_kind (x9 : Cx) (k9 : Nat) (v0 : Nat) (M : Mm) : Option (Int32 × Mm) :=
  if mK M v0 = 2 then some ((mV M v0 0), M) else none
set_option maxRecDepth 100000 in
set_option maxHeartbeats 4000000 in
theorem tX1_kind_0 {x9 : Cx} {K : Ct} {k9 : Nat} {M0 M9 : Mm} {r9 : Int32} (hE : Ce x9 K RX1 cX1_kind 1 (some .int) 0 0 "kind" M0) (v0 : Nat) (M : Mm) (h : fX1_kind x9 k9 v0 M = some (r9, M9)) : Go x9 K 1 (Qf x9 K M0 (some (.int r9)) M9) 0 [(0, .ref v0)] [] M := by
  have hC := hE.1
  have hnm := hE.2.2.2.2.2.2.2.1
  unfold fX1_kind at h
  refine go_aload_n hC dX1_kind_0 rfl 0 rfl ?_
  obtain ⟨h1, h⟩ := os_1 h
  refine go_getV 0 hC h1 rfl rfl (C := RX1) (T := TX1) (N := 4) rfl inlX1 (by decide) m_457 (Or.inl rfl) dX1_kind_1 ?_
  cases h
  exact go_iret hE dX1_kind_4
theorem c_X1_kind (l : Launch) {x9 : Cx} {k9 : Nat} {M M9 : Mm} {r9 : Int32} {v0 : Nat} (h : fX1_kind x9 k9 v0 M = some (r9, M9)) : Fn l x9 yX1_kind cX1_kind 1 (some .int) 0 0 [.ref v0] M (some (.int r9)) M9 :=
  Fn.of (by decide +kernel) (Nat.le_of_ble_eq_true rfl) rfl (fun K _ hE => tX1_kind_0 hE _ _ h)
/-! X1_from -/
def fX1_from (x9 : Cx) (k9 : Nat) (v0 : Nat) (M : Mm) : Option (Int32 × Mm) :=
  if mK M v0 = 2 then some ((mV M v0 1), M) else none
set_option maxRecDepth 100000 in
set_option maxHeartbeats 4000000 in
theorem tX1_from_0 {x9 : Cx} {K : Ct} {k9 : Nat} {M0 M9 : Mm} {r9 : Int32} (hE : Ce x9 K RX1 cX1_from 1 (some .int) 0 0 "from" M0) (v0 : Nat) (M : Mm) (h : fX1_from x9 k9 v0 M = some (r9, M9)) : Go x9 K 1 (Qf x9 K M0 (some (.int r9)) M9) 0 [(0, .ref v0)] [] M := by
  have hC := hE.1
  have hnm := hE.2.2.2.2.2.2.2.1
  unfold fX1_from at h
  refine go_aload_n hC dX1_from_0 rfl 0 rfl ?_
  obtain ⟨h1, h⟩ := os_1 h
  refine go_getV 1 hC h1 rfl rfl (C := RX1) (T := TX1) (N := 4) rfl inlX1 (by decide) m_458 (Or.inl rfl) dX1_from_1 ?_
  cases h
  exact go_iret hE dX1_from_4
theorem c_X1_from (l : Launch) {x9 : Cx} {k9 : Nat} {M M9 : Mm} {r9 : Int32} {v0 : Nat} (h : fX1_from x9 k9 v0 M = some (r9, M9)) : Fn l x9 yX1_from cX1_from 1 (some .int) 0 0 [.ref v0] M (some (.int r9)) M9 :=
  Fn.of (by decide +kernel) (Nat.le_of_ble_eq_true rfl) rfl (fun K _ hE => tX1_from_0 hE _ _ h)
/-! X1_to -/
def fX1_to (x9 : Cx) (k9 : Nat) (v0 : Nat) (M : Mm) : Option (Int32 × Mm) :=
  if mK M v0 = 2 then some ((mV M v0 2), M) else none
set_option maxRecDepth 100000 in
set_option maxHeartbeats 4000000 in
theorem tX1_to_0 {x9 : Cx} {K : Ct} {k9 : Nat} {M0 M9 : Mm} {r9 : Int32} (hE : Ce x9 K RX1 cX1_to 1 (some .int) 0 0 "to" M0) (v0 : Nat) (M : Mm) (h : fX1_to x9 k9 v0 M = some (r9, M9)) : Go x9 K 1 (Qf x9 K M0 (some (.int r9)) M9) 0 [(0, .ref v0)] [] M := by
  have hC := hE.1
  have hnm := hE.2.2.2.2.2.2.2.1
  unfold fX1_to at h
  refine go_aload_n hC dX1_to_0 rfl 0 rfl ?_
  obtain ⟨h1, h⟩ := os_1 h
  refine go_getV 2 hC h1 rfl rfl (C := RX1) (T := TX1) (N := 4) rfl inlX1 (by decide) m_459 (Or.inl rfl) dX1_to_1 ?_
  cases h
  exact go_iret hE dX1_to_4
theorem c_X1_to (l : Launch) {x9 : Cx} {k9 : Nat} {M M9 : Mm} {r9 : Int32} {v0 : Nat} (h : fX1_to x9 k9 v0 M = some (r9, M9)) : Fn l x9 yX1_to cX1_to 1 (some .int) 0 0 [.ref v0] M (some (.int r9)) M9 :=
  Fn.of (by decide +kernel) (Nat.le_of_ble_eq_true rfl) rfl (fun K _ hE => tX1_to_0 hE _ _ h)
/-! X1_transaction -/
def fX1_transaction (x9 : Cx) (k9 : Nat) (v0 : Nat) (M : Mm) : Option (Int32 × Mm) :=
  if mK M v0 = 2 then some ((mV M v0 3), M) else none
set_option maxRecDepth 100000 in
set_option maxHeartbeats 4000000 in
theorem tX1_transaction_0 {x9 : Cx} {K : Ct} {k9 : Nat} {M0 M9 : Mm} {r9 : Int32} (hE : Ce x9 K RX1 cX1_transaction 1 (some .int) 0 0 "transaction" M0) (v0 : Nat) (M : Mm) (h : fX1_transaction x9 k9 v0 M = some (r9, M9)) : Go x9 K 1 (Qf x9 K M0 (some (.int r9)) M9) 0 [(0, .ref v0)] [] M := by
  have hC := hE.1
  have hnm := hE.2.2.2.2.2.2.2.1
  unfold fX1_transaction at h
  refine go_aload_n hC dX1_transaction_0 rfl 0 rfl ?_
  obtain ⟨h1, h⟩ := os_1 h
  refine go_getV 3 hC h1 rfl rfl (C := RX1) (T := TX1) (N := 4) rfl inlX1 (by decide) m_460 (Or.inl rfl) dX1_transaction_1 ?_
  cases h
  exact go_iret hE dX1_transaction_4
theorem c_X1_transaction (l : Launch) {x9 : Cx} {k9 : Nat} {M M9 : Mm} {r9 : Int32} {v0 : Nat} (h : fX1_transaction x9 k9 v0 M = some (r9, M9)) : Fn l x9 yX1_transaction cX1_transaction 1 (some .int) 0 0 [.ref v0] M (some (.int r9)) M9 :=
  Fn.of (by decide +kernel) (Nat.le_of_ble_eq_true rfl) rfl (fun K _ hE => tX1_transaction_0 hE _ _ h)
/-! X2_take -/
def fX2_take (x9 : Cx) (k9 : Nat) (v0 : Nat) (v1 : Nat) (M : Mm) : Option (Unit × Mm) :=
  if mK M v0 = 3 then ob1 (mP M v0 3) (fun b2 => if mK M v0 = 3 then if mK M v1 = 4 then if mK M b2 = 8 ∧ ¬ ((mV M v0 4) < 0 ∨ mN M b2 ≤ ((mV M v0 4)).toNatClampNeg) then if mK (sV M b2 ((mV M v0 4)).toNatClampNeg (mV M v1 0)) v0 = 3 then if mK (sV M b2 ((mV M v0 4)).toNatClampNeg (mV M v1 0)) v0 = 3 then lt1 (sV (sV M b2 ((mV M v0 4)).toNatClampNeg (mV M v1 0)) v0 4 ((mV (sV M b2 ((mV M v0 4)).toNatClampNeg (mV M v1 0)) v0 4) + (1 : Int32))) (fun M9 => if mK M9 v0 = 3 then ob1 (mP M9 v0 1) (fun b12 => if mK M9 v1 = 4 then if mK M9 b12 = 8 ∧ ¬ ((mV M9 v1 1) < 0 ∨ mN M9 b12 ≤ ((mV M9 v1 1)).toNatClampNeg) then if mK M9 b12 = 8 ∧ ¬ ((mV M9 v1 1) < 0 ∨ mN M9 b12 ≤ ((mV M9 v1 1)).toNatClampNeg) then lt1 (sV M9 b12 ((mV M9 v1 1)).toNatClampNeg ((mV M9 b12 ((mV M9 v1 1)).toNatClampNeg) + (1 : Int32))) (fun M17 => if mK M17 v1 = 4 then if mK M17 v0 = 3 then ob2 (fX2_unlock x9 k9 v0 (mV M17 v1 0) M17) (fun r20 M21 => some ((), M21)) else none else none) else none else none else none) else none) else none else none else none else none else none) else none
set_option maxRecDepth 100000 in
set_option maxHeartbeats 4000000 in
theorem tX2_take_0 {x9 : Cx} {K : Ct} {k9 : Nat} {M0 M9 : Mm} {r9 : Unit} (hE : Ce x9 K RX2 cX2_take 2 none 1 22 "take" M0) (v0 : Nat) (v1 : Nat) (M : Mm) (h : fX2_take x9 k9 v0 v1 M = some (r9, M9)) : Go x9 K 2 (Qf x9 K M0 none M9) 0 [(0, .ref v0), (1, .ref v1)] [] M := by
  have hC := hE.1
  have hnm := hE.2.2.2.2.2.2.2.1
  unfold fX2_take at h
  refine go_aload_n hC dX2_take_0 rfl 0 rfl ?_
  obtain ⟨h1, h⟩ := os_1 h
  obtain ⟨b2, h3, h⟩ := os_b h
  refine go_getR 3 hC h1 rfl rfl h3 (C := RX2) (T := TX2) (N := 5) rfl inlX2 (by decide) m_32 (Or.inl rfl) dX2_take_1 ?_
  refine go_aload_n hC dX2_take_4 rfl 0 rfl ?_
  obtain ⟨h4, h⟩ := os_1 h
  refine go_getV 4 hC h4 rfl rfl (C := RX2) (T := TX2) (N := 5) rfl inlX2 (by decide) m_63 (Or.inl rfl) dX2_take_5 ?_
  refine go_aload_n hC dX2_take_8 rfl 1 rfl ?_
  obtain ⟨h5, h⟩ := os_1 h
  refine go_getV 0 hC h5 rfl rfl (C := RX3) (T := TX3) (N := 16) rfl inlX3 (by decide) m_429 (Or.inl rfl) dX2_take_9 ?_
  obtain ⟨h6, h⟩ := os_1 h
  refine go_iast hC h6.1 h6.2 dX2_take_12 ?_
  refine go_aload_n hC dX2_take_13 rfl 0 rfl ?_
  refine go_dup hC dX2_take_14 rfl ?_
  obtain ⟨h7, h⟩ := os_1 h
  refine go_getV 4 hC h7 rfl rfl (C := RX2) (T := TX2) (N := 5) rfl inlX2 (by decide) m_63 (Or.inl rfl) dX2_take_15 ?_
  refine go_iconst hC dX2_take_18 (v := (1 : Int32)) (by decide +kernel) ?_
  refine go_iadd hC dX2_take_19 ?_
  obtain ⟨h8, h⟩ := os_1 h
  refine go_putV 4 hC h8 rfl rfl (C := RX2) (T := TX2) (N := 5) rfl inlX2 tyX2 tyX2_ok nmX2 (by decide) m_63 (Or.inl rfl) (Or.inl rfl) (tyX2_ok 4 (by decide)) rfl rfl dX2_take_20 ?_
  obtain ⟨M9, e10, h⟩ := os_l h
  refine go_eq (pc' := 23) (st' := []) (M' := M9) (lv' := [(0, .ref v0), (1, .ref v1)]) ?_ rfl rfl rfl e10
  refine go_aload_n hC dX2_take_23 rfl 0 rfl ?_
  obtain ⟨h11, h⟩ := os_1 h
  obtain ⟨b12, h13, h⟩ := os_b h
  refine go_getR 1 hC h11 rfl rfl h13 (C := RX2) (T := TX2) (N := 5) rfl inlX2 (by decide) m_30 (Or.inl rfl) dX2_take_24 ?_
  refine go_aload_n hC dX2_take_27 rfl 1 rfl ?_
  obtain ⟨h14, h⟩ := os_1 h
  refine go_getV 1 hC h14 rfl rfl (C := RX3) (T := TX3) (N := 16) rfl inlX3 (by decide) m_430 (Or.inl rfl) dX2_take_28 ?_
  refine go_dup2 hC dX2_take_31 rfl rfl ?_
  obtain ⟨h15, h⟩ := os_1 h
  refine go_iald hC h15.1 h15.2 dX2_take_32 ?_
  refine go_iconst hC dX2_take_33 (v := (1 : Int32)) (by decide +kernel) ?_
  refine go_iadd hC dX2_take_34 ?_
  obtain ⟨h16, h⟩ := os_1 h
  refine go_iast hC h16.1 h16.2 dX2_take_35 ?_
  obtain ⟨M17, e18, h⟩ := os_l h
  refine go_eq (pc' := 36) (st' := []) (M' := M17) (lv' := [(0, .ref v0), (1, .ref v1)]) ?_ rfl rfl rfl e18
  refine go_aload_n hC dX2_take_36 rfl 0 rfl ?_
  refine go_aload_n hC dX2_take_37 rfl 1 rfl ?_
  obtain ⟨h19, h⟩ := os_1 h
  refine go_getV 0 hC h19 rfl rfl (C := RX3) (T := TX3) (N := 16) rfl inlX3 (by decide) m_429 (Or.inl rfl) dX2_take_38 ?_
  obtain ⟨h23, h⟩ := os_1 h
  obtain ⟨r20, M21, h22, h⟩ := os_c h
  refine go_callV (bytes := cX2_unlock) (maxL := 3) (ret := none) (n := 1) (As := [.int (mV M17 v1 0)]) (st := []) hE (c_X2_unlock K.2.1 h22) (by unfold okY; decide +kernel) rfl h23 rfl (C := RX2) (T := TX2) (N := 5) rfl m_434 m_431 m_432 m_433 m_16 rfl (by simp [Value.category]) (by decide) (by decide) dX2_take_41 ?_
  refine go_eq (pc' := 44) (st' := []) (M' := M21) (lv' := [(0, .ref v0), (1, .ref v1)]) ?_ rfl rfl rfl rfl
  cases h
  exact go_vret hE dX2_take_44
theorem c_X2_take (l : Launch) {x9 : Cx} {k9 : Nat} {M M9 : Mm} {r9 : Unit} {v0 : Nat} {v1 : Nat} (h : fX2_take x9 k9 v0 v1 M = some (r9, M9)) : Fn l x9 yX2_take cX2_take 2 none 1 22 [.ref v0, .ref v1] M none M9 :=
  Fn.of (by decide +kernel) (Nat.le_of_ble_eq_true rfl) rfl (fun K _ hE => tX2_take_0 hE _ _ _ h)
/-! X2_isReadyFor -/
def fX2_isReadyFor_22 (x9 : Cx) (k9 : Nat) : Nat → Nat → Nat → Int32 → Mm → Option (Int32 × Mm)
  | 0, _, _, _, _ => none
  | n9 + 1, v0, v1, v2, M => if (5 : Int32) ≤ v2 then if (1 : Int32) = 0 ∨ (1 : Int32) = 1 then some ((1 : Int32), M) else none else if mK M v1 = 4 then ob1 (mP M v1 4) (fun b4 => if mK M b4 = 8 ∧ ¬ (v2 < 0 ∨ mN M b4 ≤ (v2).toNatClampNeg) then if mK M v0 = 3 then ob1 (mP M v0 1) (fun b8 => if mK M b8 = 8 ∧ ¬ (v2 < 0 ∨ mN M b8 ≤ (v2).toNatClampNeg) then if (mV M b4 (v2).toNatClampNeg) ≤ (mV M b8 (v2).toNatClampNeg) then fX2_isReadyFor_22 x9 k9 n9 v0 v1 (v2 + 1) M else if (0 : Int32) = 0 ∨ (0 : Int32) = 1 then some ((0 : Int32), M) else none else none) else none else none) else none
set_option maxRecDepth 100000 in
set_option maxHeartbeats 4000000 in
theorem tX2_isReadyFor_22 {x9 : Cx} {K : Ct} {k9 : Nat} {M0 M9 : Mm} {r9 : Int32} (hE : Ce x9 K RX2 cX2_isReadyFor 3 (some .boolean) 0 0 "isReadyFor" M0) : ∀ (n9 : Nat) (v0 : Nat) (v1 : Nat) (v2 : Int32) (M : Mm), fX2_isReadyFor_22 x9 k9 n9 v0 v1 v2 M = some (r9, M9) → Go x9 K 3 (Qf x9 K M0 (some (.int r9)) M9) 22 [(0, .ref v0), (1, .ref v1), (2, .int v2)] [] M := by
  have hC := hE.1
  have hnm := hE.2.2.2.2.2.2.2.1
  intro n9
  induction n9 with
  | zero => intro _ _ _ _ h; cases h
  | succ n9 ih =>
    intro v0 v1 v2 M h
    rw [fX2_isReadyFor_22] at h
    refine go_iload_n hC dX2_isReadyFor_22 rfl 2 rfl ?_
    refine go_iconst hC dX2_isReadyFor_23 (v := (5 : Int32)) (by decide +kernel) ?_
    refine go_icmp_ge (t := 50) hC dX2_isReadyFor_24 (by decide) (fun c1 => ?_) (fun c1 => ?_)
    · have h := os_t h c1
      refine go_iconst hC dX2_isReadyFor_50 (v := (1 : Int32)) (by decide +kernel) ?_
      obtain ⟨h2, h⟩ := os_1 h
      cases h
      exact go_zret hE h2 dX2_isReadyFor_51
    · have h := os_f h c1
      refine go_aload_n hC dX2_isReadyFor_27 rfl 1 rfl ?_
      obtain ⟨h3, h⟩ := os_1 h
      obtain ⟨b4, h5, h⟩ := os_b h
      refine go_getR 4 hC h3 rfl rfl h5 (C := RX3) (T := TX3) (N := 16) rfl inlX3 (by decide) m_607 (Or.inl rfl) dX2_isReadyFor_28 ?_
      refine go_iload_n hC dX2_isReadyFor_31 rfl 2 rfl ?_
      obtain ⟨h6, h⟩ := os_1 h
      refine go_iald hC h6.1 h6.2 dX2_isReadyFor_32 ?_
      refine go_aload_n hC dX2_isReadyFor_33 rfl 0 rfl ?_
      obtain ⟨h7, h⟩ := os_1 h
      obtain ⟨b8, h9, h⟩ := os_b h
      refine go_getR 1 hC h7 rfl rfl h9 (C := RX2) (T := TX2) (N := 5) rfl inlX2 (by decide) m_30 (Or.inl rfl) dX2_isReadyFor_34 ?_
      refine go_iload_n hC dX2_isReadyFor_37 rfl 2 rfl ?_
      obtain ⟨h10, h⟩ := os_1 h
      refine go_iald hC h10.1 h10.2 dX2_isReadyFor_38 ?_
      refine go_icmp_le (t := 44) hC dX2_isReadyFor_39 (by decide) (fun c11 => ?_) (fun c11 => ?_)
      · have h := os_t h c11
        refine go_iinc (q := 2) (v := (v2 + 1)) (lv' := [(2, .int (v2 + 1)), (0, .ref v0), (1, .ref v1)]) hC dX2_isReadyFor_44 rfl rfl (by decide) rfl ?_
        refine go_goto (t := 22) hC dX2_isReadyFor_47 (by decide) ?_
        refine go_sub (lv' := [(0, .ref v0), (1, .ref v1), (2, .int (v2 + 1))]) [1, 2, 0] rfl ?_
        exact ih _ _ _ _ h
      · have h := os_f h c11
        refine go_iconst hC dX2_isReadyFor_42 (v := (0 : Int32)) (by decide +kernel) ?_
        obtain ⟨h12, h⟩ := os_1 h
        cases h
        exact go_zret hE h12 dX2_isReadyFor_43
def fX2_isReadyFor (x9 : Cx) (k9 : Nat) (v0 : Nat) (v1 : Nat) (M : Mm) : Option (Int32 × Mm) :=
  if mK M v1 = 4 then if mK M v0 = 3 then ob1 (mP M v0 1) (fun b3 => if mK M v1 = 4 then if mK M b3 = 8 ∧ ¬ ((mV M v1 1) < 0 ∨ mN M b3 ≤ ((mV M v1 1)).toNatClampNeg) then if (mV M v1 3) = ((mV M b3 ((mV M v1 1)).toNatClampNeg) + (1 : Int32)) then fX2_isReadyFor_22 x9 k9 k9 v0 v1 (0 : Int32) M else if (0 : Int32) = 0 ∨ (0 : Int32) = 1 then some ((0 : Int32), M) else none else none else none) else none else none
set_option maxRecDepth 100000 in
set_option maxHeartbeats 4000000 in
theorem tX2_isReadyFor_0 {x9 : Cx} {K : Ct} {k9 : Nat} {M0 M9 : Mm} {r9 : Int32} (hE : Ce x9 K RX2 cX2_isReadyFor 3 (some .boolean) 0 0 "isReadyFor" M0) (v0 : Nat) (v1 : Nat) (M : Mm) (h : fX2_isReadyFor x9 k9 v0 v1 M = some (r9, M9)) : Go x9 K 3 (Qf x9 K M0 (some (.int r9)) M9) 0 [(0, .ref v0), (1, .ref v1)] [] M := by
  have hC := hE.1
  have hnm := hE.2.2.2.2.2.2.2.1
  unfold fX2_isReadyFor at h
  refine go_aload_n hC dX2_isReadyFor_0 rfl 1 rfl ?_
  obtain ⟨h1, h⟩ := os_1 h
  refine go_getV 3 hC h1 rfl rfl (C := RX3) (T := TX3) (N := 16) rfl inlX3 (by decide) m_606 (Or.inl rfl) dX2_isReadyFor_1 ?_
  refine go_aload_n hC dX2_isReadyFor_4 rfl 0 rfl ?_
  obtain ⟨h2, h⟩ := os_1 h
  obtain ⟨b3, h4, h⟩ := os_b h
  refine go_getR 1 hC h2 rfl rfl h4 (C := RX2) (T := TX2) (N := 5) rfl inlX2 (by decide) m_30 (Or.inl rfl) dX2_isReadyFor_5 ?_
  refine go_aload_n hC dX2_isReadyFor_8 rfl 1 rfl ?_
  obtain ⟨h5, h⟩ := os_1 h
  refine go_getV 1 hC h5 rfl rfl (C := RX3) (T := TX3) (N := 16) rfl inlX3 (by decide) m_430 (Or.inl rfl) dX2_isReadyFor_9 ?_
  obtain ⟨h6, h⟩ := os_1 h
  refine go_iald hC h6.1 h6.2 dX2_isReadyFor_12 ?_
  refine go_iconst hC dX2_isReadyFor_13 (v := (1 : Int32)) (by decide +kernel) ?_
  refine go_iadd hC dX2_isReadyFor_14 ?_
  refine go_icmp_eq (t := 20) hC dX2_isReadyFor_15 (by decide) (fun c7 => ?_) (fun c7 => ?_)
  · have h := os_t h c7
    refine go_iconst hC dX2_isReadyFor_20 (v := (0 : Int32)) (by decide +kernel) ?_
    refine go_istore_n (lv' := [(2, .int (0 : Int32)), (0, .ref v0), (1, .ref v1)]) hC dX2_isReadyFor_21 rfl (by decide) rfl ?_
    refine go_sub (lv' := [(0, .ref v0), (1, .ref v1), (2, .int (0 : Int32))]) [1, 2, 0] rfl ?_
    exact tX2_isReadyFor_22 hE k9 _ _ _ _ h
  · have h := os_f h c7
    refine go_iconst hC dX2_isReadyFor_18 (v := (0 : Int32)) (by decide +kernel) ?_
    obtain ⟨h8, h⟩ := os_1 h
    cases h
    exact go_zret hE h8 dX2_isReadyFor_19
theorem c_X2_isReadyFor (l : Launch) {x9 : Cx} {k9 : Nat} {M M9 : Mm} {r9 : Int32} {v0 : Nat} {v1 : Nat} (h : fX2_isReadyFor x9 k9 v0 v1 M = some (r9, M9)) : Fn l x9 yX2_isReadyFor cX2_isReadyFor 3 (some .boolean) 0 0 [.ref v0, .ref v1] M (some (.int r9)) M9 :=
  Fn.of (by decide +kernel) (Nat.le_of_ble_eq_true rfl) rfl (fun K _ hE => tX2_isReadyFor_0 hE _ _ _ h)
/-! X3_startAt -/
def fX3_startAt_23 (x9 : Cx) (k9 : Nat) : Nat → Nat → Nat → Int32 → Mm → Option (Unit × Mm)
  | 0, _, _, _, _ => none
  | n9 + 1, v0, v3, v4, M => if (5 : Int32) ≤ v4 then if mK M v0 = 4 then if mK (sV M v0 5 (0 : Int32)) v0 = 4 then if mK (sV (sV M v0 5 (0 : Int32)) v0 7 (0 : Int32)) v0 = 4 then if mK (sV (sV (sV M v0 5 (0 : Int32)) v0 7 (0 : Int32)) v0 10 (0 : Int32)) v0 = 4 then lt1 (sV (sV (sV (sV M v0 5 (0 : Int32)) v0 7 (0 : Int32)) v0 10 (0 : Int32)) v0 11 (0 : Int32)) (fun M6 => if mK M6 v0 = 4 then if mK (sV M6 v0 12 (0 : Int32)) v0 = 4 then if mK (sV (sV M6 v0 12 (0 : Int32)) v0 13 (0 : Int32)) v0 = 4 then lt1 (sV (sV (sV M6 v0 12 (0 : Int32)) v0 13 (0 : Int32)) v0 14 (0 : Int32)) (fun M11 => if mK M11 v0 = 4 ∧ ((0 : Int32) = 0 ∨ (0 : Int32) = 1) then some ((), (sV M11 v0 15 (0 : Int32))) else none) else none else none else none) else none else none else none else none else if mK M v0 = 4 then ob1 (mP M v0 4) (fun b15 => if mK M v3 = 8 ∧ ¬ (v4 < 0 ∨ mN M v3 ≤ (v4).toNatClampNeg) then if mK M b15 = 8 ∧ ¬ (v4 < 0 ∨ mN M b15 ≤ (v4).toNatClampNeg) then fX3_startAt_23 x9 k9 n9 v0 v3 (v4 + 1) (sV M b15 (v4).toNatClampNeg (mV M v3 (v4).toNatClampNeg)) else none else none) else none
set_option maxRecDepth 100000 in
set_option maxHeartbeats 4000000 in
theorem tX3_startAt_23 {x9 : Cx} {K : Ct} {k9 : Nat} {M0 M9 : Mm} {r9 : Unit} (hE : Ce x9 K RX3 cX3_startAt 5 none 0 0 "startAt" M0) : ∀ (n9 : Nat) (v0 : Nat) (v3 : Nat) (v4 : Int32) (M : Mm), fX3_startAt_23 x9 k9 n9 v0 v3 v4 M = some (r9, M9) → Go x9 K 5 (Qf x9 K M0 none M9) 23 [(0, .ref v0), (3, .ref v3), (4, .int v4)] [] M := by
  have hC := hE.1
  have hnm := hE.2.2.2.2.2.2.2.1
  intro n9
  induction n9 with
  | zero => intro _ _ _ _ h; cases h
  | succ n9 ih =>
    intro v0 v3 v4 M h
    rw [fX3_startAt_23] at h
    refine go_iload hC dX3_startAt_23 2 rfl ?_
    refine go_iconst hC dX3_startAt_25 (v := (5 : Int32)) (by decide +kernel) ?_
    refine go_icmp_ge (t := 46) hC dX3_startAt_26 (by decide) (fun c1 => ?_) (fun c1 => ?_)
    · have h := os_t h c1
      refine go_aload_n hC dX3_startAt_46 rfl 0 rfl ?_
      refine go_iconst hC dX3_startAt_47 (v := (0 : Int32)) (by decide +kernel) ?_
      obtain ⟨h2, h⟩ := os_1 h
      refine go_putV 5 hC h2 rfl rfl (C := RX3) (T := TX3) (N := 16) rfl inlX3 tyX3 tyX3_ok nmX3 (by decide) m_241 (Or.inl rfl) (Or.inl rfl) (tyX3_ok 5 (by decide)) rfl rfl dX3_startAt_48 ?_
      refine go_aload_n hC dX3_startAt_51 rfl 0 rfl ?_
      refine go_iconst hC dX3_startAt_52 (v := (0 : Int32)) (by decide +kernel) ?_
      obtain ⟨h3, h⟩ := os_1 h
      refine go_putV 7 hC h3 rfl rfl (C := RX3) (T := TX3) (N := 16) rfl inlX3 tyX3 tyX3_ok nmX3 (by decide) m_242 (Or.inl rfl) (Or.inl rfl) (tyX3_ok 7 (by decide)) rfl rfl dX3_startAt_53 ?_
      refine go_aload_n hC dX3_startAt_56 rfl 0 rfl ?_
      refine go_iconst hC dX3_startAt_57 (v := (0 : Int32)) (by decide +kernel) ?_
      obtain ⟨h4, h⟩ := os_1 h
      refine go_putV 10 hC h4 rfl rfl (C := RX3) (T := TX3) (N := 16) rfl inlX3 tyX3 tyX3_ok nmX3 (by decide) m_243 (Or.inl rfl) (Or.inl rfl) (tyX3_ok 10 (by decide)) rfl rfl dX3_startAt_58 ?_
      refine go_aload_n hC dX3_startAt_61 rfl 0 rfl ?_
      refine go_iconst hC dX3_startAt_62 (v := (0 : Int32)) (by decide +kernel) ?_
      obtain ⟨h5, h⟩ := os_1 h
      refine go_putV 11 hC h5 rfl rfl (C := RX3) (T := TX3) (N := 16) rfl inlX3 tyX3 tyX3_ok nmX3 (by decide) m_244 (Or.inl rfl) (Or.inl rfl) (tyX3_ok 11 (by decide)) rfl rfl dX3_startAt_63 ?_
      obtain ⟨M6, e7, h⟩ := os_l h
      refine go_eq (pc' := 66) (st' := []) (M' := M6) (lv' := [(0, .ref v0), (3, .ref v3), (4, .int v4)]) ?_ rfl rfl rfl e7
      refine go_aload_n hC dX3_startAt_66 rfl 0 rfl ?_
      refine go_iconst hC dX3_startAt_67 (v := (0 : Int32)) (by decide +kernel) ?_
      obtain ⟨h8, h⟩ := os_1 h
      refine go_putV 12 hC h8 rfl rfl (C := RX3) (T := TX3) (N := 16) rfl inlX3 tyX3 tyX3_ok nmX3 (by decide) m_245 (Or.inl rfl) (Or.inl rfl) (tyX3_ok 12 (by decide)) rfl rfl dX3_startAt_68 ?_
      refine go_aload_n hC dX3_startAt_71 rfl 0 rfl ?_
      refine go_iconst hC dX3_startAt_72 (v := (0 : Int32)) (by decide +kernel) ?_
      obtain ⟨h9, h⟩ := os_1 h
      refine go_putV 13 hC h9 rfl rfl (C := RX3) (T := TX3) (N := 16) rfl inlX3 tyX3 tyX3_ok nmX3 (by decide) m_246 (Or.inl rfl) (Or.inl rfl) (tyX3_ok 13 (by decide)) rfl rfl dX3_startAt_73 ?_
      refine go_aload_n hC dX3_startAt_76 rfl 0 rfl ?_
      refine go_iconst hC dX3_startAt_77 (v := (0 : Int32)) (by decide +kernel) ?_
      obtain ⟨h10, h⟩ := os_1 h
      refine go_putV 14 hC h10 rfl rfl (C := RX3) (T := TX3) (N := 16) rfl inlX3 tyX3 tyX3_ok nmX3 (by decide) m_247 (Or.inl rfl) (Or.inl rfl) (tyX3_ok 14 (by decide)) rfl rfl dX3_startAt_78 ?_
      obtain ⟨M11, e12, h⟩ := os_l h
      refine go_eq (pc' := 81) (st' := []) (M' := M11) (lv' := [(0, .ref v0), (3, .ref v3), (4, .int v4)]) ?_ rfl rfl rfl e12
      refine go_aload_n hC dX3_startAt_81 rfl 0 rfl ?_
      refine go_iconst hC dX3_startAt_82 (v := (0 : Int32)) (by decide +kernel) ?_
      obtain ⟨h13, h⟩ := os_1 h
      refine go_putV 15 hC h13.1 rfl rfl (C := RX3) (T := TX3) (N := 16) rfl inlX3 tyX3 tyX3_ok nmX3 (by decide) m_248 (Or.inl rfl) (Or.inl rfl) (tyX3_ok 15 (by decide)) (nar_z h13.2) (fit_z h13.2) dX3_startAt_83 ?_
      cases h
      exact go_vret hE dX3_startAt_86
    · have h := os_f h c1
      refine go_aload_n hC dX3_startAt_29 rfl 0 rfl ?_
      obtain ⟨h14, h⟩ := os_1 h
      obtain ⟨b15, h16, h⟩ := os_b h
      refine go_getR 4 hC h14 rfl rfl h16 (C := RX3) (T := TX3) (N := 16) rfl inlX3 (by decide) m_163 (Or.inl rfl) dX3_startAt_30 ?_
      refine go_iload hC dX3_startAt_33 2 rfl ?_
      refine go_aload_n hC dX3_startAt_35 rfl 1 rfl ?_
      refine go_iload hC dX3_startAt_36 2 rfl ?_
      obtain ⟨h17, h⟩ := os_1 h
      refine go_iald hC h17.1 h17.2 dX3_startAt_38 ?_
      obtain ⟨h18, h⟩ := os_1 h
      refine go_iast hC h18.1 h18.2 dX3_startAt_39 ?_
      refine go_iinc (q := 2) (v := (v4 + 1)) (lv' := [(4, .int (v4 + 1)), (0, .ref v0), (3, .ref v3)]) hC dX3_startAt_40 rfl rfl (by decide) rfl ?_
      refine go_goto (t := 23) hC dX3_startAt_43 (by decide) ?_
      refine go_sub (lv' := [(0, .ref v0), (3, .ref v3), (4, .int (v4 + 1))]) [1, 2, 0] rfl ?_
      exact ih _ _ _ _ h
def fX3_startAt (x9 : Cx) (k9 : Nat) (v0 : Nat) (v1 : Int32) (v2 : Int32) (v3 : Nat) (M : Mm) : Option (Unit × Mm) :=
  if mK M v0 = 4 then if mK (sV M v0 0 v1) v0 = 4 then if mK (sV (sV M v0 0 v1) v0 1 v2) v0 = 4 then if mK (sV (sV (sV M v0 0 v1) v0 1 v2) v0 2 (0 : Int32)) v0 = 4 then lt1 (sV (sV (sV (sV M v0 0 v1) v0 1 v2) v0 2 (0 : Int32)) v0 3 (0 : Int32)) (fun M5 => fX3_startAt_23 x9 k9 k9 v0 v3 (0 : Int32) M5) else none else none else none else none
set_option maxRecDepth 100000 in
set_option maxHeartbeats 4000000 in
theorem tX3_startAt_0 {x9 : Cx} {K : Ct} {k9 : Nat} {M0 M9 : Mm} {r9 : Unit} (hE : Ce x9 K RX3 cX3_startAt 5 none 0 0 "startAt" M0) (v0 : Nat) (v1 : Int32) (v2 : Int32) (v3 : Nat) (M : Mm) (h : fX3_startAt x9 k9 v0 v1 v2 v3 M = some (r9, M9)) : Go x9 K 5 (Qf x9 K M0 none M9) 0 [(0, .ref v0), (1, .int v1), (2, .int v2), (3, .ref v3)] [] M := by
  have hC := hE.1
  have hnm := hE.2.2.2.2.2.2.2.1
  unfold fX3_startAt at h
  refine go_aload_n hC dX3_startAt_0 rfl 0 rfl ?_
  refine go_iload_n hC dX3_startAt_1 rfl 1 rfl ?_
  obtain ⟨h1, h⟩ := os_1 h
  refine go_putV 0 hC h1 rfl rfl (C := RX3) (T := TX3) (N := 16) rfl inlX3 tyX3 tyX3_ok nmX3 (by decide) m_237 (Or.inl rfl) (Or.inl rfl) (tyX3_ok 0 (by decide)) rfl rfl dX3_startAt_2 ?_
  refine go_aload_n hC dX3_startAt_5 rfl 0 rfl ?_
  refine go_iload_n hC dX3_startAt_6 rfl 2 rfl ?_
  obtain ⟨h2, h⟩ := os_1 h
  refine go_putV 1 hC h2 rfl rfl (C := RX3) (T := TX3) (N := 16) rfl inlX3 tyX3 tyX3_ok nmX3 (by decide) m_238 (Or.inl rfl) (Or.inl rfl) (tyX3_ok 1 (by decide)) rfl rfl dX3_startAt_7 ?_
  refine go_aload_n hC dX3_startAt_10 rfl 0 rfl ?_
  refine go_iconst hC dX3_startAt_11 (v := (0 : Int32)) (by decide +kernel) ?_
  obtain ⟨h3, h⟩ := os_1 h
  refine go_putV 2 hC h3 rfl rfl (C := RX3) (T := TX3) (N := 16) rfl inlX3 tyX3 tyX3_ok nmX3 (by decide) m_239 (Or.inl rfl) (Or.inl rfl) (tyX3_ok 2 (by decide)) rfl rfl dX3_startAt_12 ?_
  refine go_aload_n hC dX3_startAt_15 rfl 0 rfl ?_
  refine go_iconst hC dX3_startAt_16 (v := (0 : Int32)) (by decide +kernel) ?_
  obtain ⟨h4, h⟩ := os_1 h
  refine go_putV 3 hC h4 rfl rfl (C := RX3) (T := TX3) (N := 16) rfl inlX3 tyX3 tyX3_ok nmX3 (by decide) m_240 (Or.inl rfl) (Or.inl rfl) (tyX3_ok 3 (by decide)) rfl rfl dX3_startAt_17 ?_
  obtain ⟨M5, e6, h⟩ := os_l h
  refine go_eq (pc' := 20) (st' := []) (M' := M5) (lv' := [(0, .ref v0), (1, .int v1), (2, .int v2), (3, .ref v3)]) ?_ rfl rfl rfl e6
  refine go_iconst hC dX3_startAt_20 (v := (0 : Int32)) (by decide +kernel) ?_
  refine go_istore (lv' := [(4, .int (0 : Int32)), (0, .ref v0), (1, .int v1), (2, .int v2), (3, .ref v3)]) hC dX3_startAt_21 (by decide) rfl ?_
  refine go_sub (lv' := [(0, .ref v0), (3, .ref v3), (4, .int (0 : Int32))]) [1, 4, 0] rfl ?_
  exact tX3_startAt_23 hE k9 _ _ _ _ h
theorem c_X3_startAt (l : Launch) {x9 : Cx} {k9 : Nat} {M M9 : Mm} {r9 : Unit} {v0 : Nat} {v1 : Int32} {v2 : Int32} {v3 : Nat} (h : fX3_startAt x9 k9 v0 v1 v2 v3 M = some (r9, M9)) : Fn l x9 yX3_startAt cX3_startAt 5 none 0 0 [.ref v0, .int v1, .int v2, .ref v3] M none M9 :=
  Fn.of (by decide +kernel) (Nat.le_of_ble_eq_true rfl) rfl (fun K _ hE => tX3_startAt_0 hE _ _ _ _ _ h)
/-! X3_isSeenFrom -/
def fX3_isSeenFrom_18 (x9 : Cx) (k9 : Nat) (s0 : Int32) (M : Mm) : Option (Int32 × Mm) :=
  if s0 = 0 ∨ s0 = 1 then some (s0, M) else none
set_option maxRecDepth 100000 in
set_option maxHeartbeats 4000000 in
theorem tX3_isSeenFrom_18 {x9 : Cx} {K : Ct} {k9 : Nat} {M0 M9 : Mm} {r9 : Int32} (hE : Ce x9 K RX3 cX3_isSeenFrom 2 (some .boolean) 0 0 "isSeenFrom" M0) (s0 : Int32) (M : Mm) (h : fX3_isSeenFrom_18 x9 k9 s0 M = some (r9, M9)) : Go x9 K 2 (Qf x9 K M0 (some (.int r9)) M9) 18 [] [.int s0] M := by
  have hC := hE.1
  have hnm := hE.2.2.2.2.2.2.2.1
  unfold fX3_isSeenFrom_18 at h
  obtain ⟨h1, h⟩ := os_1 h
  cases h
  exact go_zret hE h1 dX3_isSeenFrom_18
def fX3_isSeenFrom (x9 : Cx) (k9 : Nat) (v0 : Nat) (v1 : Nat) (M : Mm) : Option (Int32 × Mm) :=
  if mK M v0 = 4 then if mK M v0 = 4 then if mK M v1 = 8 ∧ ¬ ((mV M v0 1) < 0 ∨ mN M v1 ≤ ((mV M v0 1)).toNatClampNeg) then if (mV M v1 ((mV M v0 1)).toNatClampNeg) < (mV M v0 3) then fX3_isSeenFrom_18 x9 k9 (0 : Int32) M else fX3_isSeenFrom_18 x9 k9 (1 : Int32) M else none else none else none
set_option maxRecDepth 100000 in
set_option maxHeartbeats 4000000 in
theorem tX3_isSeenFrom_0 {x9 : Cx} {K : Ct} {k9 : Nat} {M0 M9 : Mm} {r9 : Int32} (hE : Ce x9 K RX3 cX3_isSeenFrom 2 (some .boolean) 0 0 "isSeenFrom" M0) (v0 : Nat) (v1 : Nat) (M : Mm) (h : fX3_isSeenFrom x9 k9 v0 v1 M = some (r9, M9)) : Go x9 K 2 (Qf x9 K M0 (some (.int r9)) M9) 0 [(0, .ref v0), (1, .ref v1)] [] M := by
  have hC := hE.1
  have hnm := hE.2.2.2.2.2.2.2.1
  unfold fX3_isSeenFrom at h
  refine go_aload_n hC dX3_isSeenFrom_0 rfl 0 rfl ?_
  obtain ⟨h1, h⟩ := os_1 h
  refine go_getV 3 hC h1 rfl rfl (C := RX3) (T := TX3) (N := 16) rfl inlX3 (by decide) m_240 (Or.inl rfl) dX3_isSeenFrom_1 ?_
  refine go_aload_n hC dX3_isSeenFrom_4 rfl 1 rfl ?_
  refine go_aload_n hC dX3_isSeenFrom_5 rfl 0 rfl ?_
  obtain ⟨h2, h⟩ := os_1 h
  refine go_getV 1 hC h2 rfl rfl (C := RX3) (T := TX3) (N := 16) rfl inlX3 (by decide) m_238 (Or.inl rfl) dX3_isSeenFrom_6 ?_
  obtain ⟨h3, h⟩ := os_1 h
  refine go_iald hC h3.1 h3.2 dX3_isSeenFrom_9 ?_
  refine go_icmp_gt (t := 17) hC dX3_isSeenFrom_10 (by decide) (fun c4 => ?_) (fun c4 => ?_)
  · have h := os_t h c4
    refine go_iconst hC dX3_isSeenFrom_17 (v := (0 : Int32)) (by decide +kernel) ?_
    refine go_sub (lv' := []) [] rfl ?_
    exact tX3_isSeenFrom_18 hE _ _ h
  · have h := os_f h c4
    refine go_iconst hC dX3_isSeenFrom_13 (v := (1 : Int32)) (by decide +kernel) ?_
    refine go_goto (t := 18) hC dX3_isSeenFrom_14 (by decide) ?_
    refine go_sub (lv' := []) [] rfl ?_
    exact tX3_isSeenFrom_18 hE _ _ h
theorem c_X3_isSeenFrom (l : Launch) {x9 : Cx} {k9 : Nat} {M M9 : Mm} {r9 : Int32} {v0 : Nat} {v1 : Nat} (h : fX3_isSeenFrom x9 k9 v0 v1 M = some (r9, M9)) : Fn l x9 yX3_isSeenFrom cX3_isSeenFrom 2 (some .boolean) 0 0 [.ref v0, .ref v1] M (some (.int r9)) M9 :=
  Fn.of (by decide +kernel) (Nat.le_of_ble_eq_true rfl) rfl (fun K _ hE => tX3_isSeenFrom_0 hE _ _ _ h)
/-! X3_changeOf -/
def fX3_changeOf_31 (x9 : Cx) (k9 : Nat) (rec4 : Nat → Int32 → Int32 → Int32 → Mm → Option (Int32 × Mm)) (v0 : Nat) (v1 : Int32) (v2 : Int32) (v3 : Int32) (M : Mm) : Option (Int32 × Mm) :=
  rec4 v0 v1 v2 (v3 + 1) M
set_option maxRecDepth 100000 in
set_option maxHeartbeats 4000000 in
theorem tX3_changeOf_31 {x9 : Cx} {K : Ct} {k9 : Nat} {M0 M9 : Mm} {r9 : Int32} (hE : Ce x9 K RX3 cX3_changeOf 4 (some .int) 0 0 "changeOf" M0) {rec4 : Nat → Int32 → Int32 → Int32 → Mm → Option (Int32 × Mm)} (hrec4 : ∀ (v0 : Nat) (v1 : Int32) (v2 : Int32) (v3 : Int32) (M : Mm), rec4 v0 v1 v2 v3 M = some (r9, M9) → Go x9 K 4 (Qf x9 K M0 (some (.int r9)) M9) 4 [(0, .ref v0), (1, .int v1), (2, .int v2), (3, .int v3)] [] M) (v0 : Nat) (v1 : Int32) (v2 : Int32) (v3 : Int32) (M : Mm) (h : fX3_changeOf_31 x9 k9 rec4 v0 v1 v2 v3 M = some (r9, M9)) : Go x9 K 4 (Qf x9 K M0 (some (.int r9)) M9) 31 [(0, .ref v0), (1, .int v1), (2, .int v2), (3, .int v3)] [] M := by
  have hC := hE.1
  have hnm := hE.2.2.2.2.2.2.2.1
  unfold fX3_changeOf_31 at h
  refine go_iinc (q := 3) (v := (v3 + 1)) (lv' := [(3, .int (v3 + 1)), (0, .ref v0), (1, .int v1), (2, .int v2)]) hC dX3_changeOf_31 rfl rfl (by decide) rfl ?_
  refine go_goto (t := 4) hC dX3_changeOf_34 (by decide) ?_
  refine go_sub (lv' := [(0, .ref v0), (1, .int v1), (2, .int v2), (3, .int (v3 + 1))]) [1, 2, 3, 0] rfl ?_
  exact hrec4 _ _ _ _ _ h
def fX3_changeOf_4 (x9 : Cx) (k9 : Nat) : Nat → Nat → Int32 → Int32 → Int32 → Mm → Option (Int32 × Mm)
  | 0, _, _, _, _, _ => none
  | n9 + 1, v0, v1, v2, v3, M => if mK M v0 = 4 then if (mV M v0 7) ≤ v3 then some (v2, M) else if mK M v0 = 4 then ob1 (mP M v0 8) (fun b4 => if mK M b4 = 8 ∧ ¬ (v3 < 0 ∨ mN M b4 ≤ (v3).toNatClampNeg) then if (mV M b4 (v3).toNatClampNeg) = v1 then if mK M v0 = 4 then ob1 (mP M v0 9) (fun b9 => if mK M b9 = 8 ∧ ¬ (v3 < 0 ∨ mN M b9 ≤ (v3).toNatClampNeg) then fX3_changeOf_31 x9 k9 (fX3_changeOf_4 x9 k9 n9) v0 v1 (v2 + (mV M b9 (v3).toNatClampNeg)) v3 M else none) else none else fX3_changeOf_31 x9 k9 (fX3_changeOf_4 x9 k9 n9) v0 v1 v2 v3 M else none) else none else none
set_option maxRecDepth 100000 in
set_option maxHeartbeats 4000000 in
theorem tX3_changeOf_4 {x9 : Cx} {K : Ct} {k9 : Nat} {M0 M9 : Mm} {r9 : Int32} (hE : Ce x9 K RX3 cX3_changeOf 4 (some .int) 0 0 "changeOf" M0) : ∀ (n9 : Nat) (v0 : Nat) (v1 : Int32) (v2 : Int32) (v3 : Int32) (M : Mm), fX3_changeOf_4 x9 k9 n9 v0 v1 v2 v3 M = some (r9, M9) → Go x9 K 4 (Qf x9 K M0 (some (.int r9)) M9) 4 [(0, .ref v0), (1, .int v1), (2, .int v2), (3, .int v3)] [] M := by
  have hC := hE.1
  have hnm := hE.2.2.2.2.2.2.2.1
  intro n9
  induction n9 with
  | zero => intro _ _ _ _ _ h; cases h
  | succ n9 ih =>
    intro v0 v1 v2 v3 M h
    rw [fX3_changeOf_4] at h
    refine go_iload_n hC dX3_changeOf_4 rfl 3 rfl ?_
    refine go_aload_n hC dX3_changeOf_5 rfl 0 rfl ?_
    obtain ⟨h1, h⟩ := os_1 h
    refine go_getV 7 hC h1 rfl rfl (C := RX3) (T := TX3) (N := 16) rfl inlX3 (by decide) m_242 (Or.inl rfl) dX3_changeOf_6 ?_
    refine go_icmp_ge (t := 37) hC dX3_changeOf_9 (by decide) (fun c2 => ?_) (fun c2 => ?_)
    · have h := os_t h c2
      refine go_iload_n hC dX3_changeOf_37 rfl 2 rfl ?_
      cases h
      exact go_iret hE dX3_changeOf_38
    · have h := os_f h c2
      refine go_aload_n hC dX3_changeOf_12 rfl 0 rfl ?_
      obtain ⟨h3, h⟩ := os_1 h
      obtain ⟨b4, h5, h⟩ := os_b h
      refine go_getR 8 hC h3 rfl rfl h5 (C := RX3) (T := TX3) (N := 16) rfl inlX3 (by decide) m_165 (Or.inl rfl) dX3_changeOf_13 ?_
      refine go_iload_n hC dX3_changeOf_16 rfl 3 rfl ?_
      obtain ⟨h6, h⟩ := os_1 h
      refine go_iald hC h6.1 h6.2 dX3_changeOf_17 ?_
      refine go_iload_n hC dX3_changeOf_18 rfl 1 rfl ?_
      refine go_icmp_ne (t := 31) hC dX3_changeOf_19 (by decide) (fun c7 => ?_) (fun c7 => ?_)
      · have h := os_f h c7
        exact tX3_changeOf_31 hE ih _ _ _ _ _ h
      · have h := os_t h c7
        refine go_iload_n hC dX3_changeOf_22 rfl 2 rfl ?_
        refine go_aload_n hC dX3_changeOf_23 rfl 0 rfl ?_
        obtain ⟨h8, h⟩ := os_1 h
        obtain ⟨b9, h10, h⟩ := os_b h
        refine go_getR 9 hC h8 rfl rfl h10 (C := RX3) (T := TX3) (N := 16) rfl inlX3 (by decide) m_166 (Or.inl rfl) dX3_changeOf_24 ?_
        refine go_iload_n hC dX3_changeOf_27 rfl 3 rfl ?_
        obtain ⟨h11, h⟩ := os_1 h
        refine go_iald hC h11.1 h11.2 dX3_changeOf_28 ?_
        refine go_iadd hC dX3_changeOf_29 ?_
        refine go_istore_n (lv' := [(2, .int (v2 + (mV M b9 (v3).toNatClampNeg))), (0, .ref v0), (1, .int v1), (3, .int v3)]) hC dX3_changeOf_30 rfl (by decide) rfl ?_
        refine go_sub (lv' := [(0, .ref v0), (1, .int v1), (2, .int (v2 + (mV M b9 (v3).toNatClampNeg))), (3, .int v3)]) [1, 2, 0, 3] rfl ?_
        exact tX3_changeOf_31 hE ih _ _ _ _ _ h
def fX3_changeOf (x9 : Cx) (k9 : Nat) (v0 : Nat) (v1 : Int32) (M : Mm) : Option (Int32 × Mm) :=
  fX3_changeOf_4 x9 k9 k9 v0 v1 (0 : Int32) (0 : Int32) M
set_option maxRecDepth 100000 in
set_option maxHeartbeats 4000000 in
theorem tX3_changeOf_0 {x9 : Cx} {K : Ct} {k9 : Nat} {M0 M9 : Mm} {r9 : Int32} (hE : Ce x9 K RX3 cX3_changeOf 4 (some .int) 0 0 "changeOf" M0) (v0 : Nat) (v1 : Int32) (M : Mm) (h : fX3_changeOf x9 k9 v0 v1 M = some (r9, M9)) : Go x9 K 4 (Qf x9 K M0 (some (.int r9)) M9) 0 [(0, .ref v0), (1, .int v1)] [] M := by
  have hC := hE.1
  have hnm := hE.2.2.2.2.2.2.2.1
  unfold fX3_changeOf at h
  refine go_iconst hC dX3_changeOf_0 (v := (0 : Int32)) (by decide +kernel) ?_
  refine go_istore_n (lv' := [(2, .int (0 : Int32)), (0, .ref v0), (1, .int v1)]) hC dX3_changeOf_1 rfl (by decide) rfl ?_
  refine go_iconst hC dX3_changeOf_2 (v := (0 : Int32)) (by decide +kernel) ?_
  refine go_istore_n (lv' := [(3, .int (0 : Int32)), (2, .int (0 : Int32)), (0, .ref v0), (1, .int v1)]) hC dX3_changeOf_3 rfl (by decide) rfl ?_
  refine go_sub (lv' := [(0, .ref v0), (1, .int v1), (2, .int (0 : Int32)), (3, .int (0 : Int32))]) [2, 3, 1, 0] rfl ?_
  exact tX3_changeOf_4 hE k9 _ _ _ _ _ h
theorem c_X3_changeOf (l : Launch) {x9 : Cx} {k9 : Nat} {M M9 : Mm} {r9 : Int32} {v0 : Nat} {v1 : Int32} (h : fX3_changeOf x9 k9 v0 v1 M = some (r9, M9)) : Fn l x9 yX3_changeOf cX3_changeOf 4 (some .int) 0 0 [.ref v0, .int v1] M (some (.int r9)) M9 :=
  Fn.of (by decide +kernel) (Nat.le_of_ble_eq_true rfl) rfl (fun K _ hE => tX3_changeOf_0 hE _ _ _ h)
/-! X4_bit -/
def fX4_bit (x9 : Cx) (k9 : Nat) (v0 : Int32) (M : Mm) : Option (Int32 × Mm) :=
  some (((1 : Int32) <<< (v0 &&& 31)), M)
set_option maxRecDepth 100000 in
set_option maxHeartbeats 4000000 in
theorem tX4_bit_0 {x9 : Cx} {K : Ct} {k9 : Nat} {M0 M9 : Mm} {r9 : Int32} (hE : Ce x9 K RX4 cX4_bit 1 (some .int) 0 0 "bit" M0) (v0 : Int32) (M : Mm) (h : fX4_bit x9 k9 v0 M = some (r9, M9)) : Go x9 K 1 (Qf x9 K M0 (some (.int r9)) M9) 0 [(0, .int v0)] [] M := by
  have hC := hE.1
  have hnm := hE.2.2.2.2.2.2.2.1
  unfold fX4_bit at h
  refine go_iconst hC dX4_bit_0 (v := (1 : Int32)) (by decide +kernel) ?_
  refine go_iload_n hC dX4_bit_1 rfl 0 rfl ?_
  refine go_ishl hC dX4_bit_2 ?_
  cases h
  exact go_iret hE dX4_bit_3
theorem c_X4_bit (l : Launch) {x9 : Cx} {k9 : Nat} {M M9 : Mm} {r9 : Int32} {v0 : Int32} (h : fX4_bit x9 k9 v0 M = some (r9, M9)) : Fn l x9 yX4_bit cX4_bit 1 (some .int) 0 0 [.int v0] M (some (.int r9)) M9 :=
  Fn.of (by decide +kernel) (Nat.le_of_ble_eq_true rfl) rfl (fun K _ hE => tX4_bit_0 hE _ _ h)
/-! X4_has -/
def fX4_has_13 (x9 : Cx) (k9 : Nat) (s0 : Int32) (M : Mm) : Option (Int32 × Mm) :=
  if s0 = 0 ∨ s0 = 1 then some (s0, M) else none
set_option maxRecDepth 100000 in
set_option maxHeartbeats 4000000 in
theorem tX4_has_13 {x9 : Cx} {K : Ct} {k9 : Nat} {M0 M9 : Mm} {r9 : Int32} (hE : Ce x9 K RX4 cX4_has 2 (some .boolean) 0 0 "has" M0) (s0 : Int32) (M : Mm) (h : fX4_has_13 x9 k9 s0 M = some (r9, M9)) : Go x9 K 2 (Qf x9 K M0 (some (.int r9)) M9) 13 [] [.int s0] M := by
  have hC := hE.1
  have hnm := hE.2.2.2.2.2.2.2.1
  unfold fX4_has_13 at h
  obtain ⟨h1, h⟩ := os_1 h
  cases h
  exact go_zret hE h1 dX4_has_13
def fX4_has (x9 : Cx) (k9 : Nat) (v0 : Int32) (v1 : Int32) (M : Mm) : Option (Int32 × Mm) :=
  if ((v0 >>> (v1 &&& 31)) &&& (1 : Int32)) = 0 then fX4_has_13 x9 k9 (0 : Int32) M else fX4_has_13 x9 k9 (1 : Int32) M
set_option maxRecDepth 100000 in
set_option maxHeartbeats 4000000 in
theorem tX4_has_0 {x9 : Cx} {K : Ct} {k9 : Nat} {M0 M9 : Mm} {r9 : Int32} (hE : Ce x9 K RX4 cX4_has 2 (some .boolean) 0 0 "has" M0) (v0 : Int32) (v1 : Int32) (M : Mm) (h : fX4_has x9 k9 v0 v1 M = some (r9, M9)) : Go x9 K 2 (Qf x9 K M0 (some (.int r9)) M9) 0 [(0, .int v0), (1, .int v1)] [] M := by
  have hC := hE.1
  have hnm := hE.2.2.2.2.2.2.2.1
  unfold fX4_has at h
  refine go_iload_n hC dX4_has_0 rfl 0 rfl ?_
  refine go_iload_n hC dX4_has_1 rfl 1 rfl ?_
  refine go_ishr hC dX4_has_2 ?_
  refine go_iconst hC dX4_has_3 (v := (1 : Int32)) (by decide +kernel) ?_
  refine go_iand hC dX4_has_4 ?_
  refine go_if_eq (t := 12) hC dX4_has_5 (by decide) (fun c1 => ?_) (fun c1 => ?_)
  · have h := os_t h c1
    refine go_iconst hC dX4_has_12 (v := (0 : Int32)) (by decide +kernel) ?_
    refine go_sub (lv' := []) [] rfl ?_
    exact tX4_has_13 hE _ _ h
  · have h := os_f h c1
    refine go_iconst hC dX4_has_8 (v := (1 : Int32)) (by decide +kernel) ?_
    refine go_goto (t := 13) hC dX4_has_9 (by decide) ?_
    refine go_sub (lv' := []) [] rfl ?_
    exact tX4_has_13 hE _ _ h
theorem c_X4_has (l : Launch) {x9 : Cx} {k9 : Nat} {M M9 : Mm} {r9 : Int32} {v0 : Int32} {v1 : Int32} (h : fX4_has x9 k9 v0 v1 M = some (r9, M9)) : Fn l x9 yX4_has cX4_has 2 (some .boolean) 0 0 [.int v0, .int v1] M (some (.int r9)) M9 :=
  Fn.of (by decide +kernel) (Nat.le_of_ble_eq_true rfl) rfl (fun K _ hE => tX4_has_0 hE _ _ _ h)
/-! X3_wrote -/
def fX3_wrote (x9 : Cx) (k9 : Nat) (v0 : Nat) (v1 : Int32) (M : Mm) : Option (Int32 × Mm) :=
  if mK M v0 = 4 then ob2 (fX4_has x9 k9 (mV M v0 5) v1 M) (fun r2 M3 => if r2 = 0 ∨ r2 = 1 then some (r2, M3) else none) else none
set_option maxRecDepth 100000 in
set_option maxHeartbeats 4000000 in
theorem tX3_wrote_0 {x9 : Cx} {K : Ct} {k9 : Nat} {M0 M9 : Mm} {r9 : Int32} (hE : Ce x9 K RX3 cX3_wrote 2 (some .boolean) 1 21 "wrote" M0) (v0 : Nat) (v1 : Int32) (M : Mm) (h : fX3_wrote x9 k9 v0 v1 M = some (r9, M9)) : Go x9 K 2 (Qf x9 K M0 (some (.int r9)) M9) 0 [(0, .ref v0), (1, .int v1)] [] M := by
  have hC := hE.1
  have hnm := hE.2.2.2.2.2.2.2.1
  unfold fX3_wrote at h
  refine go_aload_n hC dX3_wrote_0 rfl 0 rfl ?_
  obtain ⟨h1, h⟩ := os_1 h
  refine go_getV 5 hC h1 rfl rfl (C := RX3) (T := TX3) (N := 16) rfl inlX3 (by decide) m_241 (Or.inl rfl) dX3_wrote_1 ?_
  refine go_iload_n hC dX3_wrote_4 rfl 1 rfl ?_
  obtain ⟨r2, M3, h4, h⟩ := os_c h
  refine go_callSN (bytes := cX4_has) (maxL := 2) (ret := (some .boolean)) (n := 2) (As := [.int (mV M v0 5), .int v1]) (st := []) hE (c_X4_has K.2.1 h4) (by unfold okY; decide +kernel) rfl m_283 (i := 3) rfl m_282 m_2 rfl (by simp [Value.category]) (by decide) (by decide) dX3_wrote_5 ?_
  refine go_eq (pc' := 8) (st' := [.int r2]) (M' := M3) (lv' := [(0, .ref v0), (1, .int v1)]) ?_ rfl rfl rfl rfl
  obtain ⟨h6, h⟩ := os_1 h
  cases h
  exact go_zret hE h6 dX3_wrote_8
theorem c_X3_wrote (l : Launch) {x9 : Cx} {k9 : Nat} {M M9 : Mm} {r9 : Int32} {v0 : Nat} {v1 : Int32} (h : fX3_wrote x9 k9 v0 v1 M = some (r9, M9)) : Fn l x9 yX3_wrote cX3_wrote 2 (some .boolean) 1 21 [.ref v0, .int v1] M (some (.int r9)) M9 :=
  Fn.of (by decide +kernel) (Nat.le_of_ble_eq_true rfl) rfl (fun K _ hE => tX3_wrote_0 hE _ _ _ h)
