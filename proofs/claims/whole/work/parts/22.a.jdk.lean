/-! Jxa1e45_init_da8c8 -/
def fJxa1e45_init_da8c8 (x9 : Cx) (k9 : Nat) (v0 : Nat) (M : Mm) : Option (Unit × Mm) :=
  some ((), M)
set_option maxRecDepth 100000 in
set_option maxHeartbeats 4000000 in
theorem tJxa1e45_init_da8c8_0 {x9 : Cx} {K : Ct} {k9 : Nat} {M0 M9 : Mm} {r9 : Unit} (hE : Ce x9 K RJxa1e45 cJxa1e45_init_da8c8 1 none 1 20 "<init>" M0) (v0 : Nat) (M : Mm) (h : fJxa1e45_init_da8c8 x9 k9 v0 M = some (r9, M9)) : Go x9 K 1 (Qf x9 K M0 none M9) 0 [(0, .ref v0)] [] M := by
  have hC := hE.1
  have hnm := hE.2.2.2.2.2.2.2.1
  unfold fJxa1e45_init_da8c8 at h
  refine go_aload_n hC dJxa1e45_init_da8c8_0 rfl 0 rfl ?_
  refine go_objInit hE m_47 m_11 m_12 dJxa1e45_init_da8c8_1 (by decide) (by decide) (by simp [Value.category]) ?_
  cases h
  exact go_vret hE dJxa1e45_init_da8c8_4
theorem c_Jxa1e45_init_da8c8 (l : Launch) {x9 : Cx} {k9 : Nat} {M M9 : Mm} {r9 : Unit} {v0 : Nat} (h : fJxa1e45_init_da8c8 x9 k9 v0 M = some (r9, M9)) : Fn l x9 yJxa1e45_init_da8c8 cJxa1e45_init_da8c8 1 none 1 20 [.ref v0] M none M9 :=
  Fn.of (by decide +kernel) (Nat.le_of_ble_eq_true rfl) rfl (fun K _ hE => tJxa1e45_init_da8c8_0 hE _ _ h)
/-! Jxc12de_init_da8c8 -/
def fJxc12de_init_da8c8 (x9 : Cx) (k9 : Nat) (v0 : Nat) (M : Mm) : Option (Unit × Mm) :=
  ob2 (fJxa1e45_init_da8c8 x9 k9 v0 M) (fun r1 M2 => if mK M2 v0 = 7 then some ((), (sV M2 v0 0 (0 : Int32))) else none)
set_option maxRecDepth 100000 in
set_option maxHeartbeats 4000000 in
theorem tJxc12de_init_da8c8_0 {x9 : Cx} {K : Ct} {k9 : Nat} {M0 M9 : Mm} {r9 : Unit} (hE : Ce x9 K RJxc12de cJxc12de_init_da8c8 1 none 2 40 "<init>" M0) (v0 : Nat) (M : Mm) (h : fJxc12de_init_da8c8 x9 k9 v0 M = some (r9, M9)) : Go x9 K 1 (Qf x9 K M0 none M9) 0 [(0, .ref v0)] [] M := by
  have hC := hE.1
  have hnm := hE.2.2.2.2.2.2.2.1
  unfold fJxc12de_init_da8c8 at h
  refine go_aload_n hC dJxc12de_init_da8c8_0 rfl 0 rfl ?_
  obtain ⟨r1, M2, h3, h⟩ := os_c h
  refine go_callI (bytes := cJxa1e45_init_da8c8) (maxL := 1) (n := 0) (As := []) (st := []) hE (c_Jxa1e45_init_da8c8 K.2.1 h3) (by unfold okY; decide +kernel) rfl (b := v0) m_46 m_43 m_44 rfl m_45 rfl (by simp [Value.category]) (by decide) (by decide) dJxc12de_init_da8c8_1 ?_
  refine go_eq (pc' := 4) (st' := []) (M' := M2) (lv' := [(0, .ref v0)]) ?_ rfl rfl rfl rfl
  refine go_aload_n hC dJxc12de_init_da8c8_4 rfl 0 rfl ?_
  refine go_iconst hC dJxc12de_init_da8c8_5 (v := (0 : Int32)) (by decide +kernel) ?_
  obtain ⟨h5, h⟩ := os_1 h
  refine go_putV 0 hC h5 rfl rfl (C := RJx4a65c) (T := TJx4a65c) (N := 3) rfl inlJx4a65c tyJx4a65c tyJx4a65c_ok nmJx4a65c (by decide) m_42 (Or.inl rfl) (Or.inl rfl) (tyJx4a65c_ok 0 (by decide)) rfl rfl dJxc12de_init_da8c8_6 ?_
  cases h
  exact go_vret hE dJxc12de_init_da8c8_9
theorem c_Jxc12de_init_da8c8 (l : Launch) {x9 : Cx} {k9 : Nat} {M M9 : Mm} {r9 : Unit} {v0 : Nat} (h : fJxc12de_init_da8c8 x9 k9 v0 M = some (r9, M9)) : Fn l x9 yJxc12de_init_da8c8 cJxc12de_init_da8c8 1 none 2 40 [.ref v0] M none M9 :=
  Fn.of (by decide +kernel) (Nat.le_of_ble_eq_true rfl) rfl (fun K _ hE => tJxc12de_init_da8c8_0 hE _ _ h)
/-! Jx4a65c_init_da8c8 -/
def fJx4a65c_init_da8c8 (x9 : Cx) (k9 : Nat) (v0 : Nat) (M : Mm) : Option (Unit × Mm) :=
  ob2 (fJxc12de_init_da8c8 x9 k9 v0 M) (fun r1 M2 => if mK M2 v0 = 7 then some ((), (sP M2 v0 1 (some (xE x9)))) else none)
set_option maxRecDepth 100000 in
set_option maxHeartbeats 4000000 in
theorem tJx4a65c_init_da8c8_0 {x9 : Cx} {K : Ct} {k9 : Nat} {M0 M9 : Mm} {r9 : Unit} (hE : Ce x9 K RJx4a65c cJx4a65c_init_da8c8 1 none 3 60 "<init>" M0) (v0 : Nat) (M : Mm) (h : fJx4a65c_init_da8c8 x9 k9 v0 M = some (r9, M9)) : Go x9 K 1 (Qf x9 K M0 none M9) 0 [(0, .ref v0)] [] M := by
  have hC := hE.1
  have hnm := hE.2.2.2.2.2.2.2.1
  unfold fJx4a65c_init_da8c8 at h
  refine go_aload_n hC dJx4a65c_init_da8c8_0 rfl 0 rfl ?_
  obtain ⟨r1, M2, h3, h⟩ := os_c h
  refine go_callI (bytes := cJxc12de_init_da8c8) (maxL := 1) (n := 0) (As := []) (st := []) hE (c_Jxc12de_init_da8c8 K.2.1 h3) (by unfold okY; decide +kernel) rfl (b := v0) m_41 m_38 m_39 rfl m_40 rfl (by simp [Value.category]) (by decide) (by decide) dJx4a65c_init_da8c8_1 ?_
  refine go_eq (pc' := 4) (st' := []) (M' := M2) (lv' := [(0, .ref v0)]) ?_ rfl rfl rfl rfl
  refine go_aload_n hC dJx4a65c_init_da8c8_4 rfl 0 rfl ?_
  refine go_getE hC m_36 dJx4a65c_init_da8c8_5 ?_
  obtain ⟨h5, h⟩ := os_1 h
  refine go_putR 1 hC h5 rfl rfl (C := RJx4a65c) (T := TJx4a65c) (N := 3) rfl inlJx4a65c tyJx4a65c tyJx4a65c_ok nmJx4a65c (by decide) m_37 (Or.inl rfl) (Or.inl rfl) (tyJx4a65c_ok 1 (by decide)) rfl rfl dJx4a65c_init_da8c8_8 ?_
  cases h
  exact go_vret hE dJx4a65c_init_da8c8_11
theorem c_Jx4a65c_init_da8c8 (l : Launch) {x9 : Cx} {k9 : Nat} {M M9 : Mm} {r9 : Unit} {v0 : Nat} (h : fJx4a65c_init_da8c8 x9 k9 v0 M = some (r9, M9)) : Fn l x9 yJx4a65c_init_da8c8 cJx4a65c_init_da8c8 1 none 3 60 [.ref v0] M none M9 :=
  Fn.of (by decide +kernel) (Nat.le_of_ble_eq_true rfl) rfl (fun K _ hE => tJx4a65c_init_da8c8_0 hE _ _ h)
/-! Jx4a65c_clear_da8c8 -/
def fJx4a65c_clear_da8c8_27 (x9 : Cx) (k9 : Nat) : Nat → Nat → Int32 → Int32 → Mm → Option (Unit × Mm)
  | 0, _, _, _, _ => none
  | n9 + 1, v1, v2, v3, M => if v2 ≤ v3 then some ((), M) else if mK M v1 = 11 ∧ ¬ (v3 < 0 ∨ mN M v1 ≤ (v3).toNatClampNeg) then fJx4a65c_clear_da8c8_27 x9 k9 n9 v1 v2 (v3 + 1) (sP M v1 (v3).toNatClampNeg none) else none
set_option maxRecDepth 100000 in
set_option maxHeartbeats 4000000 in
theorem tJx4a65c_clear_da8c8_27 {x9 : Cx} {K : Ct} {k9 : Nat} {M0 M9 : Mm} {r9 : Unit} (hE : Ce x9 K RJx4a65c cJx4a65c_clear_da8c8 4 none 0 0 "clear" M0) : ∀ (n9 : Nat) (v1 : Nat) (v2 : Int32) (v3 : Int32) (M : Mm), fJx4a65c_clear_da8c8_27 x9 k9 n9 v1 v2 v3 M = some (r9, M9) → Go x9 K 4 (Qf x9 K M0 none M9) 27 [(1, .ref v1), (2, .int v2), (3, .int v3)] [] M := by
  have hC := hE.1
  have hnm := hE.2.2.2.2.2.2.2.1
  intro n9
  induction n9 with
  | zero => intro _ _ _ _ h; cases h
  | succ n9 ih =>
    intro v1 v2 v3 M h
    rw [fJx4a65c_clear_da8c8_27] at h
    refine go_iload_n hC dJx4a65c_clear_da8c8_27 rfl 2 rfl ?_
    refine go_iload_n hC dJx4a65c_clear_da8c8_28 rfl 1 rfl ?_
    refine go_icmp_ge (t := 42) hC dJx4a65c_clear_da8c8_29 (by decide) (fun c1 => ?_) (fun c1 => ?_)
    · have h := os_t h c1
      cases h
      exact go_vret hE dJx4a65c_clear_da8c8_42
    · have h := os_f h c1
      refine go_aload_n hC dJx4a65c_clear_da8c8_32 rfl 0 rfl ?_
      refine go_iload_n hC dJx4a65c_clear_da8c8_33 rfl 2 rfl ?_
      refine go_null hC dJx4a65c_clear_da8c8_34 ?_
      obtain ⟨h2, h⟩ := os_1 h
      refine go_aastN hC h2.1 h2.2 dJx4a65c_clear_da8c8_35 ?_
      refine go_iinc (q := 2) (v := (v3 + 1)) (lv' := [(3, .int (v3 + 1)), (1, .ref v1), (2, .int v2)]) hC dJx4a65c_clear_da8c8_36 rfl rfl (by decide) rfl ?_
      refine go_goto (t := 27) hC dJx4a65c_clear_da8c8_39 (by decide) ?_
      refine go_sub (lv' := [(1, .ref v1), (2, .int v2), (3, .int (v3 + 1))]) [1, 2, 0] rfl ?_
      exact ih _ _ _ _ h
def fJx4a65c_clear_da8c8 (x9 : Cx) (k9 : Nat) (v0 : Nat) (M : Mm) : Option (Unit × Mm) :=
  if mK M v0 = 7 then if mK M v0 = 7 then if mK (sV M v0 0 ((mV M v0 0) + (1 : Int32))) v0 = 7 then ob1 (mP (sV M v0 0 ((mV M v0 0) + (1 : Int32))) v0 1) (fun b4 => if mK (sV M v0 0 ((mV M v0 0) + (1 : Int32))) v0 = 7 then if mK (sV M v0 0 ((mV M v0 0) + (1 : Int32))) v0 = 7 then fJx4a65c_clear_da8c8_27 x9 k9 k9 b4 (mV (sV M v0 0 ((mV M v0 0) + (1 : Int32))) v0 2) (0 : Int32) (sV (sV M v0 0 ((mV M v0 0) + (1 : Int32))) v0 2 (0 : Int32)) else none else none) else none else none else none
set_option maxRecDepth 100000 in
set_option maxHeartbeats 4000000 in
theorem tJx4a65c_clear_da8c8_0 {x9 : Cx} {K : Ct} {k9 : Nat} {M0 M9 : Mm} {r9 : Unit} (hE : Ce x9 K RJx4a65c cJx4a65c_clear_da8c8 4 none 0 0 "clear" M0) (v0 : Nat) (M : Mm) (h : fJx4a65c_clear_da8c8 x9 k9 v0 M = some (r9, M9)) : Go x9 K 4 (Qf x9 K M0 none M9) 0 [(0, .ref v0)] [] M := by
  have hC := hE.1
  have hnm := hE.2.2.2.2.2.2.2.1
  unfold fJx4a65c_clear_da8c8 at h
  refine go_aload_n hC dJx4a65c_clear_da8c8_0 rfl 0 rfl ?_
  refine go_dup hC dJx4a65c_clear_da8c8_1 rfl ?_
  obtain ⟨h1, h⟩ := os_1 h
  refine go_getV 0 hC h1 rfl rfl (C := RJx4a65c) (T := TJx4a65c) (N := 3) rfl inlJx4a65c (by decide) m_68 (Or.inr m_69) dJx4a65c_clear_da8c8_2 ?_
  refine go_iconst hC dJx4a65c_clear_da8c8_5 (v := (1 : Int32)) (by decide +kernel) ?_
  refine go_iadd hC dJx4a65c_clear_da8c8_6 ?_
  obtain ⟨h2, h⟩ := os_1 h
  refine go_putV 0 hC h2 rfl rfl (C := RJx4a65c) (T := TJx4a65c) (N := 3) rfl inlJx4a65c tyJx4a65c tyJx4a65c_ok nmJx4a65c (by decide) m_68 (Or.inr m_69) (Or.inl rfl) (tyJx4a65c_ok 0 (by decide)) rfl rfl dJx4a65c_clear_da8c8_7 ?_
  refine go_aload_n hC dJx4a65c_clear_da8c8_10 rfl 0 rfl ?_
  obtain ⟨h3, h⟩ := os_1 h
  obtain ⟨b4, h5, h⟩ := os_b h
  refine go_getR 1 hC h3 rfl rfl h5 (C := RJx4a65c) (T := TJx4a65c) (N := 3) rfl inlJx4a65c (by decide) m_37 (Or.inl rfl) dJx4a65c_clear_da8c8_11 ?_
  refine go_astore_n (lv' := [(1, .ref b4), (0, .ref v0)]) hC dJx4a65c_clear_da8c8_14 rfl (by decide) rfl ?_
  refine go_aload_n hC dJx4a65c_clear_da8c8_15 rfl 1 rfl ?_
  obtain ⟨h6, h⟩ := os_1 h
  refine go_getV 2 hC h6 rfl rfl (C := RJx4a65c) (T := TJx4a65c) (N := 3) rfl inlJx4a65c (by decide) m_70 (Or.inl rfl) dJx4a65c_clear_da8c8_16 ?_
  refine go_istore_n (lv' := [(2, .int (mV (sV M v0 0 ((mV M v0 0) + (1 : Int32))) v0 2)), (1, .ref b4), (0, .ref v0)]) hC dJx4a65c_clear_da8c8_19 rfl (by decide) rfl ?_
  refine go_aload_n hC dJx4a65c_clear_da8c8_20 rfl 2 rfl ?_
  refine go_iconst hC dJx4a65c_clear_da8c8_21 (v := (0 : Int32)) (by decide +kernel) ?_
  refine go_dup_x1 hC dJx4a65c_clear_da8c8_22 rfl rfl ?_
  obtain ⟨h7, h⟩ := os_1 h
  refine go_putV 2 hC h7 rfl rfl (C := RJx4a65c) (T := TJx4a65c) (N := 3) rfl inlJx4a65c tyJx4a65c tyJx4a65c_ok nmJx4a65c (by decide) m_70 (Or.inl rfl) (Or.inl rfl) (tyJx4a65c_ok 2 (by decide)) rfl rfl dJx4a65c_clear_da8c8_23 ?_
  refine go_istore_n (lv' := [(3, .int (0 : Int32)), (2, .int (mV (sV M v0 0 ((mV M v0 0) + (1 : Int32))) v0 2)), (1, .ref b4), (0, .ref v0)]) hC dJx4a65c_clear_da8c8_26 rfl (by decide) rfl ?_
  refine go_sub (lv' := [(1, .ref b4), (2, .int (mV (sV M v0 0 ((mV M v0 0) + (1 : Int32))) v0 2)), (3, .int (0 : Int32))]) [2, 1, 0] rfl ?_
  exact tJx4a65c_clear_da8c8_27 hE k9 _ _ _ _ h
theorem c_Jx4a65c_clear_da8c8 (l : Launch) {x9 : Cx} {k9 : Nat} {M M9 : Mm} {r9 : Unit} {v0 : Nat} (h : fJx4a65c_clear_da8c8 x9 k9 v0 M = some (r9, M9)) : Fn l x9 yJx4a65c_clear_da8c8 cJx4a65c_clear_da8c8 4 none 0 0 [.ref v0] M none M9 :=
  Fn.of (by decide +kernel) (Nat.le_of_ble_eq_true rfl) rfl (fun K _ hE => tJx4a65c_clear_da8c8_0 hE _ _ h)
/-! Jx4a65c_size_8abf5 -/
def fJx4a65c_size_8abf5 (x9 : Cx) (k9 : Nat) (v0 : Nat) (M : Mm) : Option (Int32 × Mm) :=
  if mK M v0 = 7 then some ((mV M v0 2), M) else none
set_option maxRecDepth 100000 in
set_option maxHeartbeats 4000000 in
theorem tJx4a65c_size_8abf5_0 {x9 : Cx} {K : Ct} {k9 : Nat} {M0 M9 : Mm} {r9 : Int32} (hE : Ce x9 K RJx4a65c cJx4a65c_size_8abf5 1 (some .int) 0 0 "size" M0) (v0 : Nat) (M : Mm) (h : fJx4a65c_size_8abf5 x9 k9 v0 M = some (r9, M9)) : Go x9 K 1 (Qf x9 K M0 (some (.int r9)) M9) 0 [(0, .ref v0)] [] M := by
  have hC := hE.1
  have hnm := hE.2.2.2.2.2.2.2.1
  unfold fJx4a65c_size_8abf5 at h
  refine go_aload_n hC dJx4a65c_size_8abf5_0 rfl 0 rfl ?_
  obtain ⟨h1, h⟩ := os_1 h
  refine go_getV 2 hC h1 rfl rfl (C := RJx4a65c) (T := TJx4a65c) (N := 3) rfl inlJx4a65c (by decide) m_70 (Or.inl rfl) dJx4a65c_size_8abf5_1 ?_
  cases h
  exact go_iret hE dJx4a65c_size_8abf5_4
theorem c_Jx4a65c_size_8abf5 (l : Launch) {x9 : Cx} {k9 : Nat} {M M9 : Mm} {r9 : Int32} {v0 : Nat} (h : fJx4a65c_size_8abf5 x9 k9 v0 M = some (r9, M9)) : Fn l x9 yJx4a65c_size_8abf5 cJx4a65c_size_8abf5 1 (some .int) 0 0 [.ref v0] M (some (.int r9)) M9 :=
  Fn.of (by decide +kernel) (Nat.le_of_ble_eq_true rfl) rfl (fun K _ hE => tJx4a65c_size_8abf5_0 hE _ _ h)
/-! J8_hugeLength_7cf53 -/
def fJ8_hugeLength_7cf53 (x9 : Cx) (k9 : Nat) (v0 : Int32) (v1 : Int32) (M : Mm) : Option (Int32 × Mm) :=
  if 0 ≤ (v0 + v1) then if (2147483639 : Int32) < (v0 + v1) then some ((v0 + v1), M) else some ((2147483639 : Int32), M) else none
set_option maxRecDepth 100000 in
set_option maxHeartbeats 4000000 in
theorem tJ8_hugeLength_7cf53_0 {x9 : Cx} {K : Ct} {k9 : Nat} {M0 M9 : Mm} {r9 : Int32} (hE : Ce x9 K RJ8 cJ8_hugeLength_7cf53 3 (some .int) 0 0 "hugeLength" M0) (v0 : Int32) (v1 : Int32) (M : Mm) (h : fJ8_hugeLength_7cf53 x9 k9 v0 v1 M = some (r9, M9)) : Go x9 K 3 (Qf x9 K M0 (some (.int r9)) M9) 0 [(0, .int v0), (1, .int v1)] [] M := by
  have hC := hE.1
  have hnm := hE.2.2.2.2.2.2.2.1
  unfold fJ8_hugeLength_7cf53 at h
  refine go_iload_n hC dJ8_hugeLength_7cf53_0 rfl 0 rfl ?_
  refine go_iload_n hC dJ8_hugeLength_7cf53_1 rfl 1 rfl ?_
  refine go_iadd hC dJ8_hugeLength_7cf53_2 ?_
  refine go_istore_n (lv' := [(2, .int (v0 + v1)), (0, .int v0), (1, .int v1)]) hC dJ8_hugeLength_7cf53_3 rfl (by decide) rfl ?_
  refine go_iload_n hC dJ8_hugeLength_7cf53_4 rfl 0 rfl ?_
  refine go_if_ge (t := 49) hC dJ8_hugeLength_7cf53_5 (by decide) (fun c1 => ?_) (fun c1 => ?_)
  · have h := os_t h c1
    refine go_iload_n hC dJ8_hugeLength_7cf53_49 rfl 0 rfl ?_
    refine go_ldc hC (v := (2147483639 : Int32)) m_193 dJ8_hugeLength_7cf53_50 ?_
    refine go_icmp_gt (t := 58) hC dJ8_hugeLength_7cf53_52 (by decide) (fun c2 => ?_) (fun c2 => ?_)
    · have h := os_t h c2
      refine go_iload_n hC dJ8_hugeLength_7cf53_58 rfl 0 rfl ?_
      cases h
      exact go_iret hE dJ8_hugeLength_7cf53_59
    · have h := os_f h c2
      refine go_ldc hC (v := (2147483639 : Int32)) m_193 dJ8_hugeLength_7cf53_55 ?_
      cases h
      exact go_iret hE dJ8_hugeLength_7cf53_57
  · have h := os_f h c1
    cases h
theorem c_J8_hugeLength_7cf53 (l : Launch) {x9 : Cx} {k9 : Nat} {M M9 : Mm} {r9 : Int32} {v0 : Int32} {v1 : Int32} (h : fJ8_hugeLength_7cf53 x9 k9 v0 v1 M = some (r9, M9)) : Fn l x9 yJ8_hugeLength_7cf53 cJ8_hugeLength_7cf53 3 (some .int) 0 0 [.int v0, .int v1] M (some (.int r9)) M9 :=
  Fn.of (by decide +kernel) (Nat.le_of_ble_eq_true rfl) rfl (fun K _ hE => tJ8_hugeLength_7cf53_0 hE _ _ _ h)
/-! J8_newLength_cabcc -/
def fJ8_newLength_cabcc_21 (x9 : Cx) (k9 : Nat) (v0 : Int32) (v1 : Int32) (M : Mm) : Option (Int32 × Mm) :=
  ob2 (fJ8_hugeLength_7cf53 x9 k9 v0 v1 M) (fun r1 M2 => some (r1, M2))
set_option maxRecDepth 100000 in
set_option maxHeartbeats 4000000 in
theorem tJ8_newLength_cabcc_21 {x9 : Cx} {K : Ct} {k9 : Nat} {M0 M9 : Mm} {r9 : Int32} (hE : Ce x9 K RJ8 cJ8_newLength_cabcc 4 (some .int) 1 30 "newLength" M0) (v0 : Int32) (v1 : Int32) (M : Mm) (h : fJ8_newLength_cabcc_21 x9 k9 v0 v1 M = some (r9, M9)) : Go x9 K 4 (Qf x9 K M0 (some (.int r9)) M9) 21 [(0, .int v0), (1, .int v1)] [] M := by
  have hC := hE.1
  have hnm := hE.2.2.2.2.2.2.2.1
  unfold fJ8_newLength_cabcc_21 at h
  refine go_iload_n hC dJ8_newLength_cabcc_21 rfl 0 rfl ?_
  refine go_iload_n hC dJ8_newLength_cabcc_22 rfl 1 rfl ?_
  obtain ⟨r1, M2, h3, h⟩ := os_c h
  refine go_callS (bytes := cJ8_hugeLength_7cf53) (maxL := 3) (ret := (some .int)) (n := 2) (As := [.int v0, .int v1]) (st := []) hE (c_J8_hugeLength_7cf53 K.2.1 h3) (by unfold okY; decide +kernel) rfl m_196 m_194 m_195 m_190 rfl (by simp [Value.category]) (by decide) (by decide) dJ8_newLength_cabcc_23 ?_
  refine go_eq (pc' := 26) (st' := [.int r1]) (M' := M2) (lv' := [(0, .int v0), (1, .int v1)]) ?_ rfl rfl rfl rfl
  cases h
  exact go_iret hE dJ8_newLength_cabcc_26
def fJ8_newLength_cabcc (x9 : Cx) (k9 : Nat) (v0 : Int32) (v1 : Int32) (v2 : Int32) (M : Mm) : Option (Int32 × Mm) :=
  if (v0 + (if v1 < v2 then v2 else v1)) ≤ (0 : Int32) then fJ8_newLength_cabcc_21 x9 k9 v0 v1 M else if (2147483639 : Int32) < (v0 + (if v1 < v2 then v2 else v1)) then fJ8_newLength_cabcc_21 x9 k9 v0 v1 M else some ((v0 + (if v1 < v2 then v2 else v1)), M)
set_option maxRecDepth 100000 in
set_option maxHeartbeats 4000000 in
theorem tJ8_newLength_cabcc_0 {x9 : Cx} {K : Ct} {k9 : Nat} {M0 M9 : Mm} {r9 : Int32} (hE : Ce x9 K RJ8 cJ8_newLength_cabcc 4 (some .int) 1 30 "newLength" M0) (v0 : Int32) (v1 : Int32) (v2 : Int32) (M : Mm) (h : fJ8_newLength_cabcc x9 k9 v0 v1 v2 M = some (r9, M9)) : Go x9 K 4 (Qf x9 K M0 (some (.int r9)) M9) 0 [(0, .int v0), (1, .int v1), (2, .int v2)] [] M := by
  have hC := hE.1
  have hnm := hE.2.2.2.2.2.2.2.1
  unfold fJ8_newLength_cabcc at h
  refine go_iload_n hC dJ8_newLength_cabcc_0 rfl 0 rfl ?_
  refine go_iload_n hC dJ8_newLength_cabcc_1 rfl 1 rfl ?_
  refine go_iload_n hC dJ8_newLength_cabcc_2 rfl 2 rfl ?_
  refine go_mmax hE m_192 m_184 m_185 m_186 (by decide) (by decide) (by simp [Value.category]) dJ8_newLength_cabcc_3 ?_
  refine go_iadd hC dJ8_newLength_cabcc_6 ?_
  refine go_istore_n (lv' := [(3, .int (v0 + (if v1 < v2 then v2 else v1))), (0, .int v0), (1, .int v1), (2, .int v2)]) hC dJ8_newLength_cabcc_7 rfl (by decide) rfl ?_
  refine go_iconst hC dJ8_newLength_cabcc_8 (v := (0 : Int32)) (by decide +kernel) ?_
  refine go_iload_n hC dJ8_newLength_cabcc_9 rfl 0 rfl ?_
  refine go_icmp_ge (t := 21) hC dJ8_newLength_cabcc_10 (by decide) (fun c1 => ?_) (fun c1 => ?_)
  · have h := os_t h c1
    refine go_sub (lv' := [(0, .int v0), (1, .int v1)]) [1, 2] rfl ?_
    exact tJ8_newLength_cabcc_21 hE _ _ _ h
  · have h := os_f h c1
    refine go_iload_n hC dJ8_newLength_cabcc_13 rfl 0 rfl ?_
    refine go_ldc hC (v := (2147483639 : Int32)) m_193 dJ8_newLength_cabcc_14 ?_
    refine go_icmp_gt (t := 21) hC dJ8_newLength_cabcc_16 (by decide) (fun c2 => ?_) (fun c2 => ?_)
    · have h := os_t h c2
      refine go_sub (lv' := [(0, .int v0), (1, .int v1)]) [1, 2] rfl ?_
      exact tJ8_newLength_cabcc_21 hE _ _ _ h
    · have h := os_f h c2
      refine go_iload_n hC dJ8_newLength_cabcc_19 rfl 0 rfl ?_
      cases h
      exact go_iret hE dJ8_newLength_cabcc_20
theorem c_J8_newLength_cabcc (l : Launch) {x9 : Cx} {k9 : Nat} {M M9 : Mm} {r9 : Int32} {v0 : Int32} {v1 : Int32} {v2 : Int32} (h : fJ8_newLength_cabcc x9 k9 v0 v1 v2 M = some (r9, M9)) : Fn l x9 yJ8_newLength_cabcc cJ8_newLength_cabcc 4 (some .int) 1 30 [.int v0, .int v1, .int v2] M (some (.int r9)) M9 :=
  Fn.of (by decide +kernel) (Nat.le_of_ble_eq_true rfl) rfl (fun K _ hE => tJ8_newLength_cabcc_0 hE _ _ _ _ h)
/-! J7_copyOf_6403c -/
def fJ7_copyOf_6403c (x9 : Cx) (k9 : Nat) (v0 : Nat) (v1 : Int32) (v2 : Nat) (M : Mm) : Option (Nat × Mm) :=
  if v2 = (xG x9) then if ¬ v1 < 0 ∧ (v1).toNatClampNeg * 4 ≤ 536870912 ∧ mX M + 1 ≤ xC x9 ∧ mS M + (v1).toNatClampNeg ≤ xL x9 then if v0 = xE x9 ∨ mK (nO M 11 (v1).toNatClampNeg (v1).toNatClampNeg) v0 = 11 then if (mK (nO M 11 (v1).toNatClampNeg (v1).toNatClampNeg) v0 = 11 ∨ mK (nO M 11 (v1).toNatClampNeg (v1).toNatClampNeg) v0 = 13) ∧ mK (nO M 11 (v1).toNatClampNeg (v1).toNatClampNeg) (mX M) = 11 ∧ ¬ (0 : Int32) < 0 ∧ ¬ (0 : Int32) < 0 ∧ ¬ (if v1 < (lenE x9 (nO M 11 (v1).toNatClampNeg (v1).toNatClampNeg) v0) then v1 else (lenE x9 (nO M 11 (v1).toNatClampNeg (v1).toNatClampNeg) v0)) < 0 ∧ ((0 : Int32)).toNatClampNeg + ((if v1 < (lenE x9 (nO M 11 (v1).toNatClampNeg (v1).toNatClampNeg) v0) then v1 else (lenE x9 (nO M 11 (v1).toNatClampNeg (v1).toNatClampNeg) v0))).toNatClampNeg ≤ mN (nO M 11 (v1).toNatClampNeg (v1).toNatClampNeg) v0 ∧ ((0 : Int32)).toNatClampNeg + ((if v1 < (lenE x9 (nO M 11 (v1).toNatClampNeg (v1).toNatClampNeg) v0) then v1 else (lenE x9 (nO M 11 (v1).toNatClampNeg (v1).toNatClampNeg) v0))).toNatClampNeg ≤ mN (nO M 11 (v1).toNatClampNeg (v1).toNatClampNeg) (mX M) ∧ okE (nO M 11 (v1).toNatClampNeg (v1).toNatClampNeg) v0 ((0 : Int32)).toNatClampNeg ((if v1 < (lenE x9 (nO M 11 (v1).toNatClampNeg (v1).toNatClampNeg) v0) then v1 else (lenE x9 (nO M 11 (v1).toNatClampNeg (v1).toNatClampNeg) v0))).toNatClampNeg = true then lt1 (sR (nO M 11 (v1).toNatClampNeg (v1).toNatClampNeg) (mX M) (va_cpy (mP (nO M 11 (v1).toNatClampNeg (v1).toNatClampNeg) v0) (mP (nO M 11 (v1).toNatClampNeg (v1).toNatClampNeg) (mX M)) ((0 : Int32)).toNatClampNeg ((0 : Int32)).toNatClampNeg ((if v1 < (lenE x9 (nO M 11 (v1).toNatClampNeg (v1).toNatClampNeg) v0) then v1 else (lenE x9 (nO M 11 (v1).toNatClampNeg (v1).toNatClampNeg) v0))).toNatClampNeg)) (fun M5 => some ((mX M), M5)) else none else none else none else none
set_option maxRecDepth 100000 in
set_option maxHeartbeats 4000000 in
theorem tJ7_copyOf_6403c_0 {x9 : Cx} {K : Ct} {k9 : Nat} {M0 M9 : Mm} {r9 : Nat} (hE : Ce x9 K RJ7 cJ7_copyOf_6403c 4 (some (.array (.object "java/lang/Object"))) 1 40 "copyOf" M0) (v0 : Nat) (v1 : Int32) (v2 : Nat) (M : Mm) (h : fJ7_copyOf_6403c x9 k9 v0 v1 v2 M = some (r9, M9)) : Go x9 K 4 (Qf x9 K M0 (some (.ref r9)) M9) 0 [(0, .ref v0), (1, .int v1), (2, .ref v2)] [] M := by
  have hC := hE.1
  have hnm := hE.2.2.2.2.2.2.2.1
  unfold fJ7_copyOf_6403c at h
  refine go_aload_n hC dJ7_copyOf_6403c_0 rfl 2 rfl ?_
  refine go_ldcM hC m_208 dJ7_copyOf_6403c_1 ?_
  refine go_acmp_ne (t := 13) hC dJ7_copyOf_6403c_3 (by decide) (fun c1 => ?_) (fun c1 => ?_)
  · have h := os_f h c1
    refine go_aload_n hC dJ7_copyOf_6403c_13 rfl 2 rfl ?_
    cases h
  · have h := os_t h c1
    refine go_iload_n hC dJ7_copyOf_6403c_6 rfl 1 rfl ?_
    obtain ⟨h2, h⟩ := os_1 h
    refine go_anewO hE m_209 h2.1 h2.2.1 h2.2.2.1 h2.2.2.2 dJ7_copyOf_6403c_7 ?_
    refine go_goto (t := 24) hC dJ7_copyOf_6403c_10 (by decide) ?_
    refine go_astore_n (lv' := [(3, .ref (mX M)), (0, .ref v0), (1, .int v1), (2, .ref v2)]) hC dJ7_copyOf_6403c_24 rfl (by decide) rfl ?_
    refine go_aload_n hC dJ7_copyOf_6403c_25 rfl 1 rfl ?_
    refine go_iconst hC dJ7_copyOf_6403c_26 (v := (0 : Int32)) (by decide +kernel) ?_
    refine go_aload_n hC dJ7_copyOf_6403c_27 rfl 0 rfl ?_
    refine go_iconst hC dJ7_copyOf_6403c_28 (v := (0 : Int32)) (by decide +kernel) ?_
    refine go_aload_n hC dJ7_copyOf_6403c_29 rfl 1 rfl ?_
    obtain ⟨h3, h⟩ := os_1 h
    refine go_alenE hC h3 dJ7_copyOf_6403c_30 ?_
    refine go_iload_n hC dJ7_copyOf_6403c_31 rfl 2 rfl ?_
    refine go_mmin hE m_210 m_211 m_185 m_212 (by decide) (by decide) (by simp [Value.category]) dJ7_copyOf_6403c_32 ?_
    obtain ⟨h4, h⟩ := os_1 h
    refine go_acopy hE m_213 m_214 m_215 m_216 h4.1 h4.2.1 h4.2.2.1 h4.2.2.2.1 h4.2.2.2.2.1 h4.2.2.2.2.2.1 h4.2.2.2.2.2.2.1 h4.2.2.2.2.2.2.2 (by decide) (by decide) (by simp [Value.category]) dJ7_copyOf_6403c_35 ?_
    refine go_aload_n hC dJ7_copyOf_6403c_38 rfl 0 rfl ?_
    obtain ⟨M5, e6, h⟩ := os_l h
    refine go_eq (pc' := 39) (st' := [.ref (mX M)]) (M' := M5) (lv' := [(3, .ref (mX M)), (0, .ref v0), (1, .int v1), (2, .ref v2)]) ?_ rfl rfl rfl e6
    cases h
    exact go_aret hE (by first | exact Or.inl ⟨_, rfl⟩ | exact Or.inr ⟨_, rfl⟩) dJ7_copyOf_6403c_39
theorem c_J7_copyOf_6403c (l : Launch) {x9 : Cx} {k9 : Nat} {M M9 : Mm} {r9 : Nat} {v0 : Nat} {v1 : Int32} {v2 : Nat} (h : fJ7_copyOf_6403c x9 k9 v0 v1 v2 M = some (r9, M9)) : Fn l x9 yJ7_copyOf_6403c cJ7_copyOf_6403c 4 (some (.array (.object "java/lang/Object"))) 1 40 [.ref v0, .int v1, .ref v2] M (some (.ref r9)) M9 :=
  Fn.of (by decide +kernel) (Nat.le_of_ble_eq_true rfl) rfl (fun K _ hE => tJ7_copyOf_6403c_0 hE _ _ _ _ h)
/-! J7_copyOf_1904c -/
def fJ7_copyOf_1904c (x9 : Cx) (k9 : Nat) (v0 : Nat) (v1 : Int32) (M : Mm) : Option (Nat × Mm) :=
  if mK M v0 = 11 ∨ mK M v0 = 13 then ob2 (fJ7_copyOf_6403c x9 k9 v0 v1 (xG x9) M) (fun r2 M3 => some (r2, M3)) else none
set_option maxRecDepth 100000 in
set_option maxHeartbeats 4000000 in
theorem tJ7_copyOf_1904c_0 {x9 : Cx} {K : Ct} {k9 : Nat} {M0 M9 : Mm} {r9 : Nat} (hE : Ce x9 K RJ7 cJ7_copyOf_1904c 2 (some (.array (.object "java/lang/Object"))) 2 63 "copyOf" M0) (v0 : Nat) (v1 : Int32) (M : Mm) (h : fJ7_copyOf_1904c x9 k9 v0 v1 M = some (r9, M9)) : Go x9 K 2 (Qf x9 K M0 (some (.ref r9)) M9) 0 [(0, .ref v0), (1, .int v1)] [] M := by
  have hC := hE.1
  have hnm := hE.2.2.2.2.2.2.2.1
  unfold fJ7_copyOf_1904c at h
  refine go_aload_n hC dJ7_copyOf_1904c_0 rfl 0 rfl ?_
  refine go_iload_n hC dJ7_copyOf_1904c_1 rfl 1 rfl ?_
  refine go_aload_n hC dJ7_copyOf_1904c_2 rfl 0 rfl ?_
  obtain ⟨h1, h⟩ := os_1 h
  refine go_getC hE h1 m_201 m_202 m_203 m_204 (by decide) (by decide) (by simp [Value.category]) dJ7_copyOf_1904c_3 ?_
  obtain ⟨r2, M3, h4, h⟩ := os_c h
  refine go_callS (bytes := cJ7_copyOf_6403c) (maxL := 4) (ret := (some (.array (.object "java/lang/Object")))) (n := 3) (As := [.ref v0, .int v1, .ref (xG x9)]) (st := []) hE (c_J7_copyOf_6403c K.2.1 h4) (by unfold okY; decide +kernel) rfl m_207 m_205 m_206 m_199 rfl (by simp [Value.category]) (by decide) (by decide) dJ7_copyOf_1904c_6 ?_
  refine go_eq (pc' := 9) (st' := [.ref r2]) (M' := M3) (lv' := [(0, .ref v0), (1, .int v1)]) ?_ rfl rfl rfl rfl
  cases h
  exact go_aret hE (by first | exact Or.inl ⟨_, rfl⟩ | exact Or.inr ⟨_, rfl⟩) dJ7_copyOf_1904c_9
theorem c_J7_copyOf_1904c (l : Launch) {x9 : Cx} {k9 : Nat} {M M9 : Mm} {r9 : Nat} {v0 : Nat} {v1 : Int32} (h : fJ7_copyOf_1904c x9 k9 v0 v1 M = some (r9, M9)) : Fn l x9 yJ7_copyOf_1904c cJ7_copyOf_1904c 2 (some (.array (.object "java/lang/Object"))) 2 63 [.ref v0, .int v1] M (some (.ref r9)) M9 :=
  Fn.of (by decide +kernel) (Nat.le_of_ble_eq_true rfl) rfl (fun K _ hE => tJ7_copyOf_1904c_0 hE _ _ _ h)
/-! J3_checkIndex_8e157 -/
def fJ3_checkIndex_8e157_9 (x9 : Cx) (k9 : Nat) (v0 : Int32) (v1 : Int32) (v2 : Unit) (M : Mm) : Option (Int32 × Mm) :=
  none
set_option maxRecDepth 100000 in
set_option maxHeartbeats 4000000 in
theorem tJ3_checkIndex_8e157_9 {x9 : Cx} {K : Ct} {k9 : Nat} {M0 M9 : Mm} {r9 : Int32} (hE : Ce x9 K RJ3 cJ3_checkIndex_8e157 3 (some .int) 0 0 "checkIndex" M0) (v0 : Int32) (v1 : Int32) (v2 : Unit) (M : Mm) (h : fJ3_checkIndex_8e157_9 x9 k9 v0 v1 v2 M = some (r9, M9)) : Go x9 K 3 (Qf x9 K M0 (some (.int r9)) M9) 9 [(0, .int v0), (1, .int v1), (2, .null)] [] M := by
  have hC := hE.1
  have hnm := hE.2.2.2.2.2.2.2.1
  unfold fJ3_checkIndex_8e157_9 at h
  cases h
def fJ3_checkIndex_8e157 (x9 : Cx) (k9 : Nat) (v0 : Int32) (v1 : Int32) (v2 : Unit) (M : Mm) : Option (Int32 × Mm) :=
  if v0 < 0 then fJ3_checkIndex_8e157_9 x9 k9 v0 v1 () M else if v0 < v1 then some (v0, M) else fJ3_checkIndex_8e157_9 x9 k9 v0 v1 () M
set_option maxRecDepth 100000 in
set_option maxHeartbeats 4000000 in
theorem tJ3_checkIndex_8e157_0 {x9 : Cx} {K : Ct} {k9 : Nat} {M0 M9 : Mm} {r9 : Int32} (hE : Ce x9 K RJ3 cJ3_checkIndex_8e157 3 (some .int) 0 0 "checkIndex" M0) (v0 : Int32) (v1 : Int32) (v2 : Unit) (M : Mm) (h : fJ3_checkIndex_8e157 x9 k9 v0 v1 v2 M = some (r9, M9)) : Go x9 K 3 (Qf x9 K M0 (some (.int r9)) M9) 0 [(0, .int v0), (1, .int v1), (2, .null)] [] M := by
  have hC := hE.1
  have hnm := hE.2.2.2.2.2.2.2.1
  unfold fJ3_checkIndex_8e157 at h
  refine go_iload_n hC dJ3_checkIndex_8e157_0 rfl 0 rfl ?_
  refine go_if_lt (t := 9) hC dJ3_checkIndex_8e157_1 (by decide) (fun c1 => ?_) (fun c1 => ?_)
  · have h := os_t h c1
    exact tJ3_checkIndex_8e157_9 hE _ _ _ _ h
  · have h := os_f h c1
    refine go_iload_n hC dJ3_checkIndex_8e157_4 rfl 0 rfl ?_
    refine go_iload_n hC dJ3_checkIndex_8e157_5 rfl 1 rfl ?_
    refine go_icmp_lt (t := 16) hC dJ3_checkIndex_8e157_6 (by decide) (fun c2 => ?_) (fun c2 => ?_)
    · have h := os_t h c2
      refine go_iload_n hC dJ3_checkIndex_8e157_16 rfl 0 rfl ?_
      cases h
      exact go_iret hE dJ3_checkIndex_8e157_17
    · have h := os_f h c2
      exact tJ3_checkIndex_8e157_9 hE _ _ _ _ h
theorem c_J3_checkIndex_8e157 (l : Launch) {x9 : Cx} {k9 : Nat} {M M9 : Mm} {r9 : Int32} {v0 : Int32} {v1 : Int32} {v2 : Unit} (h : fJ3_checkIndex_8e157 x9 k9 v0 v1 v2 M = some (r9, M9)) : Fn l x9 yJ3_checkIndex_8e157 cJ3_checkIndex_8e157 3 (some .int) 0 0 [.int v0, .int v1, .null] M (some (.int r9)) M9 :=
  Fn.of (by decide +kernel) (Nat.le_of_ble_eq_true rfl) rfl (fun K _ hE => tJ3_checkIndex_8e157_0 hE _ _ _ _ h)
/-! J15_checkIndex_7cf53 -/
def fJ15_checkIndex_7cf53 (x9 : Cx) (k9 : Nat) (v0 : Int32) (v1 : Int32) (M : Mm) : Option (Int32 × Mm) :=
  ob2 (fJ3_checkIndex_8e157 x9 k9 v0 v1 () M) (fun r1 M2 => some (r1, M2))
set_option maxRecDepth 100000 in
set_option maxHeartbeats 4000000 in
theorem tJ15_checkIndex_7cf53_0 {x9 : Cx} {K : Ct} {k9 : Nat} {M0 M9 : Mm} {r9 : Int32} (hE : Ce x9 K RJ15 cJ15_checkIndex_7cf53 2 (some .int) 1 22 "checkIndex" M0) (v0 : Int32) (v1 : Int32) (M : Mm) (h : fJ15_checkIndex_7cf53 x9 k9 v0 v1 M = some (r9, M9)) : Go x9 K 2 (Qf x9 K M0 (some (.int r9)) M9) 0 [(0, .int v0), (1, .int v1)] [] M := by
  have hC := hE.1
  have hnm := hE.2.2.2.2.2.2.2.1
  unfold fJ15_checkIndex_7cf53 at h
  refine go_iload_n hC dJ15_checkIndex_7cf53_0 rfl 0 rfl ?_
  refine go_iload_n hC dJ15_checkIndex_7cf53_1 rfl 1 rfl ?_
  refine go_null hC dJ15_checkIndex_7cf53_2 ?_
  obtain ⟨r1, M2, h3, h⟩ := os_c h
  refine go_callS (bytes := cJ3_checkIndex_8e157) (maxL := 3) (ret := (some .int)) (n := 3) (As := [.int v0, .int v1, .null]) (st := []) hE (c_J3_checkIndex_8e157 K.2.1 h3) (by unfold okY; decide +kernel) rfl m_228 m_225 m_226 m_227 rfl (by simp [Value.category]) (by decide) (by decide) dJ15_checkIndex_7cf53_3 ?_
  refine go_eq (pc' := 6) (st' := [.int r1]) (M' := M2) (lv' := [(0, .int v0), (1, .int v1)]) ?_ rfl rfl rfl rfl
  cases h
  exact go_iret hE dJ15_checkIndex_7cf53_6
theorem c_J15_checkIndex_7cf53 (l : Launch) {x9 : Cx} {k9 : Nat} {M M9 : Mm} {r9 : Int32} {v0 : Int32} {v1 : Int32} (h : fJ15_checkIndex_7cf53 x9 k9 v0 v1 M = some (r9, M9)) : Fn l x9 yJ15_checkIndex_7cf53 cJ15_checkIndex_7cf53 2 (some .int) 1 22 [.int v0, .int v1] M (some (.int r9)) M9 :=
  Fn.of (by decide +kernel) (Nat.le_of_ble_eq_true rfl) rfl (fun K _ hE => tJ15_checkIndex_7cf53_0 hE _ _ _ h)
/-! Jx4a65c_elementData_915e3 -/
def fJx4a65c_elementData_915e3 (x9 : Cx) (k9 : Nat) (v0 : Nat) (v1 : Int32) (M : Mm) : Option (Nat × Mm) :=
  if mK M v0 = 7 then ob1 (mP M v0 1) (fun b2 => if (mK M b2 = 10 ∨ mK M b2 = 11) ∧ ¬ (v1 < 0 ∨ mN M b2 ≤ (v1).toNatClampNeg) then ob1 (mP M b2 (v1).toNatClampNeg) (fun b6 => some (b6, M)) else none) else none
set_option maxRecDepth 100000 in
set_option maxHeartbeats 4000000 in
theorem tJx4a65c_elementData_915e3_0 {x9 : Cx} {K : Ct} {k9 : Nat} {M0 M9 : Mm} {r9 : Nat} (hE : Ce x9 K RJx4a65c cJx4a65c_elementData_915e3 2 (some (.object "java/lang/Object")) 0 0 "elementData" M0) (v0 : Nat) (v1 : Int32) (M : Mm) (h : fJx4a65c_elementData_915e3 x9 k9 v0 v1 M = some (r9, M9)) : Go x9 K 2 (Qf x9 K M0 (some (.ref r9)) M9) 0 [(0, .ref v0), (1, .int v1)] [] M := by
  have hC := hE.1
  have hnm := hE.2.2.2.2.2.2.2.1
  unfold fJx4a65c_elementData_915e3 at h
  refine go_aload_n hC dJx4a65c_elementData_915e3_0 rfl 0 rfl ?_
  obtain ⟨h1, h⟩ := os_1 h
  obtain ⟨b2, h3, h⟩ := os_b h
  refine go_getR 1 hC h1 rfl rfl h3 (C := RJx4a65c) (T := TJx4a65c) (N := 3) rfl inlJx4a65c (by decide) m_37 (Or.inl rfl) dJx4a65c_elementData_915e3_1 ?_
  refine go_iload_n hC dJx4a65c_elementData_915e3_4 rfl 1 rfl ?_
  obtain ⟨h4, h⟩ := os_1 h
  obtain ⟨b6, h5, h⟩ := os_b h
  refine go_aald hC h4.1 h4.2 h5 dJx4a65c_elementData_915e3_5 ?_
  cases h
  exact go_aret hE (by first | exact Or.inl ⟨_, rfl⟩ | exact Or.inr ⟨_, rfl⟩) dJx4a65c_elementData_915e3_6
theorem c_Jx4a65c_elementData_915e3 (l : Launch) {x9 : Cx} {k9 : Nat} {M M9 : Mm} {r9 : Nat} {v0 : Nat} {v1 : Int32} (h : fJx4a65c_elementData_915e3 x9 k9 v0 v1 M = some (r9, M9)) : Fn l x9 yJx4a65c_elementData_915e3 cJx4a65c_elementData_915e3 2 (some (.object "java/lang/Object")) 0 0 [.ref v0, .int v1] M (some (.ref r9)) M9 :=
  Fn.of (by decide +kernel) (Nat.le_of_ble_eq_true rfl) rfl (fun K _ hE => tJx4a65c_elementData_915e3_0 hE _ _ _ h)
/-! Jx4a65c_get_915e3 -/
def fJx4a65c_get_915e3 (x9 : Cx) (k9 : Nat) (v0 : Nat) (v1 : Int32) (M : Mm) : Option (Nat × Mm) :=
  if mK M v0 = 7 then ob2 (fJ15_checkIndex_7cf53 x9 k9 v1 (mV M v0 2) M) (fun r2 M3 => if mK M3 v0 = 7 then ob2 (fJx4a65c_elementData_915e3 x9 k9 v0 v1 M3) (fun r6 M7 => some (r6, M7)) else none) else none
set_option maxRecDepth 100000 in
set_option maxHeartbeats 4000000 in
theorem tJx4a65c_get_915e3_0 {x9 : Cx} {K : Ct} {k9 : Nat} {M0 M9 : Mm} {r9 : Nat} (hE : Ce x9 K RJx4a65c cJx4a65c_get_915e3 2 (some (.object "java/lang/Object")) 2 43 "get" M0) (v0 : Nat) (v1 : Int32) (M : Mm) (h : fJx4a65c_get_915e3 x9 k9 v0 v1 M = some (r9, M9)) : Go x9 K 2 (Qf x9 K M0 (some (.ref r9)) M9) 0 [(0, .ref v0), (1, .int v1)] [] M := by
  have hC := hE.1
  have hnm := hE.2.2.2.2.2.2.2.1
  unfold fJx4a65c_get_915e3 at h
  refine go_iload_n hC dJx4a65c_get_915e3_0 rfl 1 rfl ?_
  refine go_aload_n hC dJx4a65c_get_915e3_1 rfl 0 rfl ?_
  obtain ⟨h1, h⟩ := os_1 h
  refine go_getV 2 hC h1 rfl rfl (C := RJx4a65c) (T := TJx4a65c) (N := 3) rfl inlJx4a65c (by decide) m_70 (Or.inl rfl) dJx4a65c_get_915e3_2 ?_
  obtain ⟨r2, M3, h4, h⟩ := os_c h
  refine go_callS (bytes := cJ15_checkIndex_7cf53) (maxL := 2) (ret := (some .int)) (n := 2) (As := [.int v1, .int (mV M v0 2)]) (st := []) hE (c_J15_checkIndex_7cf53 K.2.1 h4) (by unfold okY; decide +kernel) rfl m_224 m_221 m_222 m_223 rfl (by simp [Value.category]) (by decide) (by decide) dJx4a65c_get_915e3_5 ?_
  refine go_eq (pc' := 8) (st' := [.int r2]) (M' := M3) (lv' := [(0, .ref v0), (1, .int v1)]) ?_ rfl rfl rfl rfl
  refine go_pop hC dJx4a65c_get_915e3_8 rfl ?_
  refine go_aload_n hC dJx4a65c_get_915e3_9 rfl 0 rfl ?_
  refine go_iload_n hC dJx4a65c_get_915e3_10 rfl 1 rfl ?_
  obtain ⟨h9, h⟩ := os_1 h
  obtain ⟨r6, M7, h8, h⟩ := os_c h
  refine go_callV (bytes := cJx4a65c_elementData_915e3) (maxL := 2) (ret := (some (.object "java/lang/Object"))) (n := 1) (As := [.int v1]) (st := []) hE (c_Jx4a65c_elementData_915e3 K.2.1 h8) (by unfold okY; decide +kernel) rfl h9 rfl (C := RJx4a65c) (T := TJx4a65c) (N := 3) rfl m_232 m_229 m_230 m_231 m_19 rfl (by simp [Value.category]) (by decide) (by decide) dJx4a65c_get_915e3_11 ?_
  refine go_eq (pc' := 14) (st' := [.ref r6]) (M' := M7) (lv' := [(0, .ref v0), (1, .int v1)]) ?_ rfl rfl rfl rfl
  cases h
  exact go_aret hE (by first | exact Or.inl ⟨_, rfl⟩ | exact Or.inr ⟨_, rfl⟩) dJx4a65c_get_915e3_14
theorem c_Jx4a65c_get_915e3 (l : Launch) {x9 : Cx} {k9 : Nat} {M M9 : Mm} {r9 : Nat} {v0 : Nat} {v1 : Int32} (h : fJx4a65c_get_915e3 x9 k9 v0 v1 M = some (r9, M9)) : Fn l x9 yJx4a65c_get_915e3 cJx4a65c_get_915e3 2 (some (.object "java/lang/Object")) 2 43 [.ref v0, .int v1] M (some (.ref r9)) M9 :=
  Fn.of (by decide +kernel) (Nat.le_of_ble_eq_true rfl) rfl (fun K _ hE => tJx4a65c_get_915e3_0 hE _ _ _ h)
/-! J6_bitCount_0f7a4 -/
def fJ6_bitCount_0f7a4 (x9 : Cx) (k9 : Nat) (v0 : Int32) (M : Mm) : Option (Int32 × Mm) :=
  some (((((((((v0 - ((((v0).toUInt32 >>> (((1 : Int32)).toUInt32 &&& Int32.toUInt32 31)).toInt32) &&& (1431655765 : Int32))) &&& (858993459 : Int32)) + (((((v0 - ((((v0).toUInt32 >>> (((1 : Int32)).toUInt32 &&& Int32.toUInt32 31)).toInt32) &&& (1431655765 : Int32)))).toUInt32 >>> (((2 : Int32)).toUInt32 &&& Int32.toUInt32 31)).toInt32) &&& (858993459 : Int32))) + ((((((v0 - ((((v0).toUInt32 >>> (((1 : Int32)).toUInt32 &&& Int32.toUInt32 31)).toInt32) &&& (1431655765 : Int32))) &&& (858993459 : Int32)) + (((((v0 - ((((v0).toUInt32 >>> (((1 : Int32)).toUInt32 &&& Int32.toUInt32 31)).toInt32) &&& (1431655765 : Int32)))).toUInt32 >>> (((2 : Int32)).toUInt32 &&& Int32.toUInt32 31)).toInt32) &&& (858993459 : Int32)))).toUInt32 >>> (((4 : Int32)).toUInt32 &&& Int32.toUInt32 31)).toInt32)) &&& (252645135 : Int32)) + ((((((((v0 - ((((v0).toUInt32 >>> (((1 : Int32)).toUInt32 &&& Int32.toUInt32 31)).toInt32) &&& (1431655765 : Int32))) &&& (858993459 : Int32)) + (((((v0 - ((((v0).toUInt32 >>> (((1 : Int32)).toUInt32 &&& Int32.toUInt32 31)).toInt32) &&& (1431655765 : Int32)))).toUInt32 >>> (((2 : Int32)).toUInt32 &&& Int32.toUInt32 31)).toInt32) &&& (858993459 : Int32))) + ((((((v0 - ((((v0).toUInt32 >>> (((1 : Int32)).toUInt32 &&& Int32.toUInt32 31)).toInt32) &&& (1431655765 : Int32))) &&& (858993459 : Int32)) + (((((v0 - ((((v0).toUInt32 >>> (((1 : Int32)).toUInt32 &&& Int32.toUInt32 31)).toInt32) &&& (1431655765 : Int32)))).toUInt32 >>> (((2 : Int32)).toUInt32 &&& Int32.toUInt32 31)).toInt32) &&& (858993459 : Int32)))).toUInt32 >>> (((4 : Int32)).toUInt32 &&& Int32.toUInt32 31)).toInt32)) &&& (252645135 : Int32))).toUInt32 >>> (((8 : Int32)).toUInt32 &&& Int32.toUInt32 31)).toInt32)) + (((((((((v0 - ((((v0).toUInt32 >>> (((1 : Int32)).toUInt32 &&& Int32.toUInt32 31)).toInt32) &&& (1431655765 : Int32))) &&& (858993459 : Int32)) + (((((v0 - ((((v0).toUInt32 >>> (((1 : Int32)).toUInt32 &&& Int32.toUInt32 31)).toInt32) &&& (1431655765 : Int32)))).toUInt32 >>> (((2 : Int32)).toUInt32 &&& Int32.toUInt32 31)).toInt32) &&& (858993459 : Int32))) + ((((((v0 - ((((v0).toUInt32 >>> (((1 : Int32)).toUInt32 &&& Int32.toUInt32 31)).toInt32) &&& (1431655765 : Int32))) &&& (858993459 : Int32)) + (((((v0 - ((((v0).toUInt32 >>> (((1 : Int32)).toUInt32 &&& Int32.toUInt32 31)).toInt32) &&& (1431655765 : Int32)))).toUInt32 >>> (((2 : Int32)).toUInt32 &&& Int32.toUInt32 31)).toInt32) &&& (858993459 : Int32)))).toUInt32 >>> (((4 : Int32)).toUInt32 &&& Int32.toUInt32 31)).toInt32)) &&& (252645135 : Int32)) + ((((((((v0 - ((((v0).toUInt32 >>> (((1 : Int32)).toUInt32 &&& Int32.toUInt32 31)).toInt32) &&& (1431655765 : Int32))) &&& (858993459 : Int32)) + (((((v0 - ((((v0).toUInt32 >>> (((1 : Int32)).toUInt32 &&& Int32.toUInt32 31)).toInt32) &&& (1431655765 : Int32)))).toUInt32 >>> (((2 : Int32)).toUInt32 &&& Int32.toUInt32 31)).toInt32) &&& (858993459 : Int32))) + ((((((v0 - ((((v0).toUInt32 >>> (((1 : Int32)).toUInt32 &&& Int32.toUInt32 31)).toInt32) &&& (1431655765 : Int32))) &&& (858993459 : Int32)) + (((((v0 - ((((v0).toUInt32 >>> (((1 : Int32)).toUInt32 &&& Int32.toUInt32 31)).toInt32) &&& (1431655765 : Int32)))).toUInt32 >>> (((2 : Int32)).toUInt32 &&& Int32.toUInt32 31)).toInt32) &&& (858993459 : Int32)))).toUInt32 >>> (((4 : Int32)).toUInt32 &&& Int32.toUInt32 31)).toInt32)) &&& (252645135 : Int32))).toUInt32 >>> (((8 : Int32)).toUInt32 &&& Int32.toUInt32 31)).toInt32))).toUInt32 >>> (((16 : Int32)).toUInt32 &&& Int32.toUInt32 31)).toInt32)) &&& (63 : Int32)), M)
set_option maxRecDepth 100000 in
set_option maxHeartbeats 4000000 in
theorem tJ6_bitCount_0f7a4_0 {x9 : Cx} {K : Ct} {k9 : Nat} {M0 M9 : Mm} {r9 : Int32} (hE : Ce x9 K RJ6 cJ6_bitCount_0f7a4 1 (some .int) 0 0 "bitCount" M0) (v0 : Int32) (M : Mm) (h : fJ6_bitCount_0f7a4 x9 k9 v0 M = some (r9, M9)) : Go x9 K 1 (Qf x9 K M0 (some (.int r9)) M9) 0 [(0, .int v0)] [] M := by
  have hC := hE.1
  have hnm := hE.2.2.2.2.2.2.2.1
  unfold fJ6_bitCount_0f7a4 at h
  refine go_iload_n hC dJ6_bitCount_0f7a4_0 rfl 0 rfl ?_
  refine go_iload_n hC dJ6_bitCount_0f7a4_1 rfl 0 rfl ?_
  refine go_iconst hC dJ6_bitCount_0f7a4_2 (v := (1 : Int32)) (by decide +kernel) ?_
  refine go_iushr hC dJ6_bitCount_0f7a4_3 ?_
  refine go_ldcw hC (v := (1431655765 : Int32)) m_329 dJ6_bitCount_0f7a4_4 ?_
  refine go_iand hC dJ6_bitCount_0f7a4_7 ?_
  refine go_isub hC dJ6_bitCount_0f7a4_8 ?_
  refine go_istore_n (lv' := [(0, .int (v0 - ((((v0).toUInt32 >>> (((1 : Int32)).toUInt32 &&& Int32.toUInt32 31)).toInt32) &&& (1431655765 : Int32))))]) hC dJ6_bitCount_0f7a4_9 rfl (by decide) rfl ?_
  refine go_iload_n hC dJ6_bitCount_0f7a4_10 rfl 0 rfl ?_
  refine go_ldcw hC (v := (858993459 : Int32)) m_330 dJ6_bitCount_0f7a4_11 ?_
  refine go_iand hC dJ6_bitCount_0f7a4_14 ?_
  refine go_iload_n hC dJ6_bitCount_0f7a4_15 rfl 0 rfl ?_
  refine go_iconst hC dJ6_bitCount_0f7a4_16 (v := (2 : Int32)) (by decide +kernel) ?_
  refine go_iushr hC dJ6_bitCount_0f7a4_17 ?_
  refine go_ldcw hC (v := (858993459 : Int32)) m_330 dJ6_bitCount_0f7a4_18 ?_
  refine go_iand hC dJ6_bitCount_0f7a4_21 ?_
  refine go_iadd hC dJ6_bitCount_0f7a4_22 ?_
  refine go_istore_n (lv' := [(0, .int (((v0 - ((((v0).toUInt32 >>> (((1 : Int32)).toUInt32 &&& Int32.toUInt32 31)).toInt32) &&& (1431655765 : Int32))) &&& (858993459 : Int32)) + (((((v0 - ((((v0).toUInt32 >>> (((1 : Int32)).toUInt32 &&& Int32.toUInt32 31)).toInt32) &&& (1431655765 : Int32)))).toUInt32 >>> (((2 : Int32)).toUInt32 &&& Int32.toUInt32 31)).toInt32) &&& (858993459 : Int32))))]) hC dJ6_bitCount_0f7a4_23 rfl (by decide) rfl ?_
  refine go_iload_n hC dJ6_bitCount_0f7a4_24 rfl 0 rfl ?_
  refine go_iload_n hC dJ6_bitCount_0f7a4_25 rfl 0 rfl ?_
  refine go_iconst hC dJ6_bitCount_0f7a4_26 (v := (4 : Int32)) (by decide +kernel) ?_
  refine go_iushr hC dJ6_bitCount_0f7a4_27 ?_
  refine go_iadd hC dJ6_bitCount_0f7a4_28 ?_
  refine go_ldcw hC (v := (252645135 : Int32)) m_331 dJ6_bitCount_0f7a4_29 ?_
  refine go_iand hC dJ6_bitCount_0f7a4_32 ?_
  refine go_istore_n (lv' := [(0, .int (((((v0 - ((((v0).toUInt32 >>> (((1 : Int32)).toUInt32 &&& Int32.toUInt32 31)).toInt32) &&& (1431655765 : Int32))) &&& (858993459 : Int32)) + (((((v0 - ((((v0).toUInt32 >>> (((1 : Int32)).toUInt32 &&& Int32.toUInt32 31)).toInt32) &&& (1431655765 : Int32)))).toUInt32 >>> (((2 : Int32)).toUInt32 &&& Int32.toUInt32 31)).toInt32) &&& (858993459 : Int32))) + ((((((v0 - ((((v0).toUInt32 >>> (((1 : Int32)).toUInt32 &&& Int32.toUInt32 31)).toInt32) &&& (1431655765 : Int32))) &&& (858993459 : Int32)) + (((((v0 - ((((v0).toUInt32 >>> (((1 : Int32)).toUInt32 &&& Int32.toUInt32 31)).toInt32) &&& (1431655765 : Int32)))).toUInt32 >>> (((2 : Int32)).toUInt32 &&& Int32.toUInt32 31)).toInt32) &&& (858993459 : Int32)))).toUInt32 >>> (((4 : Int32)).toUInt32 &&& Int32.toUInt32 31)).toInt32)) &&& (252645135 : Int32)))]) hC dJ6_bitCount_0f7a4_33 rfl (by decide) rfl ?_
  refine go_iload_n hC dJ6_bitCount_0f7a4_34 rfl 0 rfl ?_
  refine go_iload_n hC dJ6_bitCount_0f7a4_35 rfl 0 rfl ?_
  refine go_bipush hC dJ6_bitCount_0f7a4_36 (v := (8 : Int32)) (by decide +kernel) ?_
  refine go_iushr hC dJ6_bitCount_0f7a4_38 ?_
  refine go_iadd hC dJ6_bitCount_0f7a4_39 ?_
  refine go_istore_n (lv' := [(0, .int ((((((v0 - ((((v0).toUInt32 >>> (((1 : Int32)).toUInt32 &&& Int32.toUInt32 31)).toInt32) &&& (1431655765 : Int32))) &&& (858993459 : Int32)) + (((((v0 - ((((v0).toUInt32 >>> (((1 : Int32)).toUInt32 &&& Int32.toUInt32 31)).toInt32) &&& (1431655765 : Int32)))).toUInt32 >>> (((2 : Int32)).toUInt32 &&& Int32.toUInt32 31)).toInt32) &&& (858993459 : Int32))) + ((((((v0 - ((((v0).toUInt32 >>> (((1 : Int32)).toUInt32 &&& Int32.toUInt32 31)).toInt32) &&& (1431655765 : Int32))) &&& (858993459 : Int32)) + (((((v0 - ((((v0).toUInt32 >>> (((1 : Int32)).toUInt32 &&& Int32.toUInt32 31)).toInt32) &&& (1431655765 : Int32)))).toUInt32 >>> (((2 : Int32)).toUInt32 &&& Int32.toUInt32 31)).toInt32) &&& (858993459 : Int32)))).toUInt32 >>> (((4 : Int32)).toUInt32 &&& Int32.toUInt32 31)).toInt32)) &&& (252645135 : Int32)) + ((((((((v0 - ((((v0).toUInt32 >>> (((1 : Int32)).toUInt32 &&& Int32.toUInt32 31)).toInt32) &&& (1431655765 : Int32))) &&& (858993459 : Int32)) + (((((v0 - ((((v0).toUInt32 >>> (((1 : Int32)).toUInt32 &&& Int32.toUInt32 31)).toInt32) &&& (1431655765 : Int32)))).toUInt32 >>> (((2 : Int32)).toUInt32 &&& Int32.toUInt32 31)).toInt32) &&& (858993459 : Int32))) + ((((((v0 - ((((v0).toUInt32 >>> (((1 : Int32)).toUInt32 &&& Int32.toUInt32 31)).toInt32) &&& (1431655765 : Int32))) &&& (858993459 : Int32)) + (((((v0 - ((((v0).toUInt32 >>> (((1 : Int32)).toUInt32 &&& Int32.toUInt32 31)).toInt32) &&& (1431655765 : Int32)))).toUInt32 >>> (((2 : Int32)).toUInt32 &&& Int32.toUInt32 31)).toInt32) &&& (858993459 : Int32)))).toUInt32 >>> (((4 : Int32)).toUInt32 &&& Int32.toUInt32 31)).toInt32)) &&& (252645135 : Int32))).toUInt32 >>> (((8 : Int32)).toUInt32 &&& Int32.toUInt32 31)).toInt32)))]) hC dJ6_bitCount_0f7a4_40 rfl (by decide) rfl ?_
  refine go_iload_n hC dJ6_bitCount_0f7a4_41 rfl 0 rfl ?_
  refine go_iload_n hC dJ6_bitCount_0f7a4_42 rfl 0 rfl ?_
  refine go_bipush hC dJ6_bitCount_0f7a4_43 (v := (16 : Int32)) (by decide +kernel) ?_
  refine go_iushr hC dJ6_bitCount_0f7a4_45 ?_
  refine go_iadd hC dJ6_bitCount_0f7a4_46 ?_
  refine go_istore_n (lv' := [(0, .int (((((((v0 - ((((v0).toUInt32 >>> (((1 : Int32)).toUInt32 &&& Int32.toUInt32 31)).toInt32) &&& (1431655765 : Int32))) &&& (858993459 : Int32)) + (((((v0 - ((((v0).toUInt32 >>> (((1 : Int32)).toUInt32 &&& Int32.toUInt32 31)).toInt32) &&& (1431655765 : Int32)))).toUInt32 >>> (((2 : Int32)).toUInt32 &&& Int32.toUInt32 31)).toInt32) &&& (858993459 : Int32))) + ((((((v0 - ((((v0).toUInt32 >>> (((1 : Int32)).toUInt32 &&& Int32.toUInt32 31)).toInt32) &&& (1431655765 : Int32))) &&& (858993459 : Int32)) + (((((v0 - ((((v0).toUInt32 >>> (((1 : Int32)).toUInt32 &&& Int32.toUInt32 31)).toInt32) &&& (1431655765 : Int32)))).toUInt32 >>> (((2 : Int32)).toUInt32 &&& Int32.toUInt32 31)).toInt32) &&& (858993459 : Int32)))).toUInt32 >>> (((4 : Int32)).toUInt32 &&& Int32.toUInt32 31)).toInt32)) &&& (252645135 : Int32)) + ((((((((v0 - ((((v0).toUInt32 >>> (((1 : Int32)).toUInt32 &&& Int32.toUInt32 31)).toInt32) &&& (1431655765 : Int32))) &&& (858993459 : Int32)) + (((((v0 - ((((v0).toUInt32 >>> (((1 : Int32)).toUInt32 &&& Int32.toUInt32 31)).toInt32) &&& (1431655765 : Int32)))).toUInt32 >>> (((2 : Int32)).toUInt32 &&& Int32.toUInt32 31)).toInt32) &&& (858993459 : Int32))) + ((((((v0 - ((((v0).toUInt32 >>> (((1 : Int32)).toUInt32 &&& Int32.toUInt32 31)).toInt32) &&& (1431655765 : Int32))) &&& (858993459 : Int32)) + (((((v0 - ((((v0).toUInt32 >>> (((1 : Int32)).toUInt32 &&& Int32.toUInt32 31)).toInt32) &&& (1431655765 : Int32)))).toUInt32 >>> (((2 : Int32)).toUInt32 &&& Int32.toUInt32 31)).toInt32) &&& (858993459 : Int32)))).toUInt32 >>> (((4 : Int32)).toUInt32 &&& Int32.toUInt32 31)).toInt32)) &&& (252645135 : Int32))).toUInt32 >>> (((8 : Int32)).toUInt32 &&& Int32.toUInt32 31)).toInt32)) + (((((((((v0 - ((((v0).toUInt32 >>> (((1 : Int32)).toUInt32 &&& Int32.toUInt32 31)).toInt32) &&& (1431655765 : Int32))) &&& (858993459 : Int32)) + (((((v0 - ((((v0).toUInt32 >>> (((1 : Int32)).toUInt32 &&& Int32.toUInt32 31)).toInt32) &&& (1431655765 : Int32)))).toUInt32 >>> (((2 : Int32)).toUInt32 &&& Int32.toUInt32 31)).toInt32) &&& (858993459 : Int32))) + ((((((v0 - ((((v0).toUInt32 >>> (((1 : Int32)).toUInt32 &&& Int32.toUInt32 31)).toInt32) &&& (1431655765 : Int32))) &&& (858993459 : Int32)) + (((((v0 - ((((v0).toUInt32 >>> (((1 : Int32)).toUInt32 &&& Int32.toUInt32 31)).toInt32) &&& (1431655765 : Int32)))).toUInt32 >>> (((2 : Int32)).toUInt32 &&& Int32.toUInt32 31)).toInt32) &&& (858993459 : Int32)))).toUInt32 >>> (((4 : Int32)).toUInt32 &&& Int32.toUInt32 31)).toInt32)) &&& (252645135 : Int32)) + ((((((((v0 - ((((v0).toUInt32 >>> (((1 : Int32)).toUInt32 &&& Int32.toUInt32 31)).toInt32) &&& (1431655765 : Int32))) &&& (858993459 : Int32)) + (((((v0 - ((((v0).toUInt32 >>> (((1 : Int32)).toUInt32 &&& Int32.toUInt32 31)).toInt32) &&& (1431655765 : Int32)))).toUInt32 >>> (((2 : Int32)).toUInt32 &&& Int32.toUInt32 31)).toInt32) &&& (858993459 : Int32))) + ((((((v0 - ((((v0).toUInt32 >>> (((1 : Int32)).toUInt32 &&& Int32.toUInt32 31)).toInt32) &&& (1431655765 : Int32))) &&& (858993459 : Int32)) + (((((v0 - ((((v0).toUInt32 >>> (((1 : Int32)).toUInt32 &&& Int32.toUInt32 31)).toInt32) &&& (1431655765 : Int32)))).toUInt32 >>> (((2 : Int32)).toUInt32 &&& Int32.toUInt32 31)).toInt32) &&& (858993459 : Int32)))).toUInt32 >>> (((4 : Int32)).toUInt32 &&& Int32.toUInt32 31)).toInt32)) &&& (252645135 : Int32))).toUInt32 >>> (((8 : Int32)).toUInt32 &&& Int32.toUInt32 31)).toInt32))).toUInt32 >>> (((16 : Int32)).toUInt32 &&& Int32.toUInt32 31)).toInt32)))]) hC dJ6_bitCount_0f7a4_47 rfl (by decide) rfl ?_
  refine go_iload_n hC dJ6_bitCount_0f7a4_48 rfl 0 rfl ?_
  refine go_bipush hC dJ6_bitCount_0f7a4_49 (v := (63 : Int32)) (by decide +kernel) ?_
  refine go_iand hC dJ6_bitCount_0f7a4_51 ?_
  cases h
  exact go_iret hE dJ6_bitCount_0f7a4_52
theorem c_J6_bitCount_0f7a4 (l : Launch) {x9 : Cx} {k9 : Nat} {M M9 : Mm} {r9 : Int32} {v0 : Int32} (h : fJ6_bitCount_0f7a4 x9 k9 v0 M = some (r9, M9)) : Fn l x9 yJ6_bitCount_0f7a4 cJ6_bitCount_0f7a4 1 (some .int) 0 0 [.int v0] M (some (.int r9)) M9 :=
  Fn.of (by decide +kernel) (Nat.le_of_ble_eq_true rfl) rfl (fun K _ hE => tJ6_bitCount_0f7a4_0 hE _ _ h)
/-! Jxe7f93_init_da8c8 -/
def fJxe7f93_init_da8c8 (x9 : Cx) (k9 : Nat) (v0 : Nat) (M : Mm) : Option (Unit × Mm) :=
  some ((), M)
set_option maxRecDepth 100000 in
set_option maxHeartbeats 4000000 in
theorem tJxe7f93_init_da8c8_0 {x9 : Cx} {K : Ct} {k9 : Nat} {M0 M9 : Mm} {r9 : Unit} (hE : Ce x9 K RJxe7f93 cJxe7f93_init_da8c8 1 none 1 20 "<init>" M0) (v0 : Nat) (M : Mm) (h : fJxe7f93_init_da8c8 x9 k9 v0 M = some (r9, M9)) : Go x9 K 1 (Qf x9 K M0 none M9) 0 [(0, .ref v0)] [] M := by
  have hC := hE.1
  have hnm := hE.2.2.2.2.2.2.2.1
  unfold fJxe7f93_init_da8c8 at h
  refine go_aload_n hC dJxe7f93_init_da8c8_0 rfl 0 rfl ?_
  refine go_objInit hE m_465 m_11 m_12 dJxe7f93_init_da8c8_1 (by decide) (by decide) (by simp [Value.category]) ?_
  cases h
  exact go_vret hE dJxe7f93_init_da8c8_4
theorem c_Jxe7f93_init_da8c8 (l : Launch) {x9 : Cx} {k9 : Nat} {M M9 : Mm} {r9 : Unit} {v0 : Nat} (h : fJxe7f93_init_da8c8 x9 k9 v0 M = some (r9, M9)) : Fn l x9 yJxe7f93_init_da8c8 cJxe7f93_init_da8c8 1 none 1 20 [.ref v0] M none M9 :=
  Fn.of (by decide +kernel) (Nat.le_of_ble_eq_true rfl) rfl (fun K _ hE => tJxe7f93_init_da8c8_0 hE _ _ h)
/-! Jx4a65c_fastRemove_b59b0 -/
def fJx4a65c_fastRemove_b59b0_34 (x9 : Cx) (k9 : Nat) (v0 : Nat) (v1 : Nat) (v3 : Int32) (M : Mm) : Option (Unit × Mm) :=
  if mK M v0 = 7 then if mK (sV M v0 2 v3) v1 = 11 ∧ ¬ (v3 < 0 ∨ mN (sV M v0 2 v3) v1 ≤ (v3).toNatClampNeg) then some ((), (sP (sV M v0 2 v3) v1 (v3).toNatClampNeg none)) else none else none
set_option maxRecDepth 100000 in
set_option maxHeartbeats 4000000 in
theorem tJx4a65c_fastRemove_b59b0_34 {x9 : Cx} {K : Ct} {k9 : Nat} {M0 M9 : Mm} {r9 : Unit} (hE : Ce x9 K RJx4a65c cJx4a65c_fastRemove_b59b0 4 none 1 40 "fastRemove" M0) (v0 : Nat) (v1 : Nat) (v3 : Int32) (M : Mm) (h : fJx4a65c_fastRemove_b59b0_34 x9 k9 v0 v1 v3 M = some (r9, M9)) : Go x9 K 4 (Qf x9 K M0 none M9) 34 [(0, .ref v0), (1, .ref v1), (3, .int v3)] [] M := by
  have hC := hE.1
  have hnm := hE.2.2.2.2.2.2.2.1
  unfold fJx4a65c_fastRemove_b59b0_34 at h
  refine go_aload_n hC dJx4a65c_fastRemove_b59b0_34 rfl 1 rfl ?_
  refine go_aload_n hC dJx4a65c_fastRemove_b59b0_35 rfl 0 rfl ?_
  refine go_iload_n hC dJx4a65c_fastRemove_b59b0_36 rfl 2 rfl ?_
  refine go_dup_x1 hC dJx4a65c_fastRemove_b59b0_37 rfl rfl ?_
  obtain ⟨h1, h⟩ := os_1 h
  refine go_putV 2 hC h1 rfl rfl (C := RJx4a65c) (T := TJx4a65c) (N := 3) rfl inlJx4a65c tyJx4a65c tyJx4a65c_ok nmJx4a65c (by decide) m_70 (Or.inl rfl) (Or.inl rfl) (tyJx4a65c_ok 2 (by decide)) rfl rfl dJx4a65c_fastRemove_b59b0_38 ?_
  refine go_null hC dJx4a65c_fastRemove_b59b0_41 ?_
  obtain ⟨h2, h⟩ := os_1 h
  refine go_aastN hC h2.1 h2.2 dJx4a65c_fastRemove_b59b0_42 ?_
  cases h
  exact go_vret hE dJx4a65c_fastRemove_b59b0_43
def fJx4a65c_fastRemove_b59b0 (x9 : Cx) (k9 : Nat) (v0 : Nat) (v1 : Nat) (v2 : Int32) (M : Mm) : Option (Unit × Mm) :=
  if mK M v0 = 7 then if mK M v0 = 7 then if mK (sV M v0 0 ((mV M v0 0) + (1 : Int32))) v0 = 7 then if ((mV (sV M v0 0 ((mV M v0 0) + (1 : Int32))) v0 2) - (1 : Int32)) ≤ v2 then fJx4a65c_fastRemove_b59b0_34 x9 k9 v0 v1 ((mV (sV M v0 0 ((mV M v0 0) + (1 : Int32))) v0 2) - (1 : Int32)) (sV M v0 0 ((mV M v0 0) + (1 : Int32))) else if (mK (sV M v0 0 ((mV M v0 0) + (1 : Int32))) v1 = 11 ∨ mK (sV M v0 0 ((mV M v0 0) + (1 : Int32))) v1 = 13) ∧ mK (sV M v0 0 ((mV M v0 0) + (1 : Int32))) v1 = 11 ∧ ¬ (v2 + (1 : Int32)) < 0 ∧ ¬ v2 < 0 ∧ ¬ (((mV (sV M v0 0 ((mV M v0 0) + (1 : Int32))) v0 2) - (1 : Int32)) - v2) < 0 ∧ ((v2 + (1 : Int32))).toNatClampNeg + ((((mV (sV M v0 0 ((mV M v0 0) + (1 : Int32))) v0 2) - (1 : Int32)) - v2)).toNatClampNeg ≤ mN (sV M v0 0 ((mV M v0 0) + (1 : Int32))) v1 ∧ (v2).toNatClampNeg + ((((mV (sV M v0 0 ((mV M v0 0) + (1 : Int32))) v0 2) - (1 : Int32)) - v2)).toNatClampNeg ≤ mN (sV M v0 0 ((mV M v0 0) + (1 : Int32))) v1 ∧ okE (sV M v0 0 ((mV M v0 0) + (1 : Int32))) v1 ((v2 + (1 : Int32))).toNatClampNeg ((((mV (sV M v0 0 ((mV M v0 0) + (1 : Int32))) v0 2) - (1 : Int32)) - v2)).toNatClampNeg = true then fJx4a65c_fastRemove_b59b0_34 x9 k9 v0 v1 ((mV (sV M v0 0 ((mV M v0 0) + (1 : Int32))) v0 2) - (1 : Int32)) (sR (sV M v0 0 ((mV M v0 0) + (1 : Int32))) v1 (va_cpy (mP (sV M v0 0 ((mV M v0 0) + (1 : Int32))) v1) (mP (sV M v0 0 ((mV M v0 0) + (1 : Int32))) v1) ((v2 + (1 : Int32))).toNatClampNeg (v2).toNatClampNeg ((((mV (sV M v0 0 ((mV M v0 0) + (1 : Int32))) v0 2) - (1 : Int32)) - v2)).toNatClampNeg)) else none else none else none else none
set_option maxRecDepth 100000 in
set_option maxHeartbeats 4000000 in
theorem tJx4a65c_fastRemove_b59b0_0 {x9 : Cx} {K : Ct} {k9 : Nat} {M0 M9 : Mm} {r9 : Unit} (hE : Ce x9 K RJx4a65c cJx4a65c_fastRemove_b59b0 4 none 1 40 "fastRemove" M0) (v0 : Nat) (v1 : Nat) (v2 : Int32) (M : Mm) (h : fJx4a65c_fastRemove_b59b0 x9 k9 v0 v1 v2 M = some (r9, M9)) : Go x9 K 4 (Qf x9 K M0 none M9) 0 [(0, .ref v0), (1, .ref v1), (2, .int v2)] [] M := by
  have hC := hE.1
  have hnm := hE.2.2.2.2.2.2.2.1
  unfold fJx4a65c_fastRemove_b59b0 at h
  refine go_aload_n hC dJx4a65c_fastRemove_b59b0_0 rfl 0 rfl ?_
  refine go_dup hC dJx4a65c_fastRemove_b59b0_1 rfl ?_
  obtain ⟨h1, h⟩ := os_1 h
  refine go_getV 0 hC h1 rfl rfl (C := RJx4a65c) (T := TJx4a65c) (N := 3) rfl inlJx4a65c (by decide) m_68 (Or.inr m_69) dJx4a65c_fastRemove_b59b0_2 ?_
  refine go_iconst hC dJx4a65c_fastRemove_b59b0_5 (v := (1 : Int32)) (by decide +kernel) ?_
  refine go_iadd hC dJx4a65c_fastRemove_b59b0_6 ?_
  obtain ⟨h2, h⟩ := os_1 h
  refine go_putV 0 hC h2 rfl rfl (C := RJx4a65c) (T := TJx4a65c) (N := 3) rfl inlJx4a65c tyJx4a65c tyJx4a65c_ok nmJx4a65c (by decide) m_68 (Or.inr m_69) (Or.inl rfl) (tyJx4a65c_ok 0 (by decide)) rfl rfl dJx4a65c_fastRemove_b59b0_7 ?_
  refine go_aload_n hC dJx4a65c_fastRemove_b59b0_10 rfl 0 rfl ?_
  obtain ⟨h3, h⟩ := os_1 h
  refine go_getV 2 hC h3 rfl rfl (C := RJx4a65c) (T := TJx4a65c) (N := 3) rfl inlJx4a65c (by decide) m_70 (Or.inl rfl) dJx4a65c_fastRemove_b59b0_11 ?_
  refine go_iconst hC dJx4a65c_fastRemove_b59b0_14 (v := (1 : Int32)) (by decide +kernel) ?_
  refine go_isub hC dJx4a65c_fastRemove_b59b0_15 ?_
  refine go_dup hC dJx4a65c_fastRemove_b59b0_16 rfl ?_
  refine go_istore_n (lv' := [(3, .int ((mV (sV M v0 0 ((mV M v0 0) + (1 : Int32))) v0 2) - (1 : Int32))), (0, .ref v0), (1, .ref v1), (2, .int v2)]) hC dJx4a65c_fastRemove_b59b0_17 rfl (by decide) rfl ?_
  refine go_iload_n hC dJx4a65c_fastRemove_b59b0_18 rfl 3 rfl ?_
  refine go_icmp_le (t := 34) hC dJx4a65c_fastRemove_b59b0_19 (by decide) (fun c4 => ?_) (fun c4 => ?_)
  · have h := os_t h c4
    refine go_sub (lv' := [(0, .ref v0), (1, .ref v1), (3, .int ((mV (sV M v0 0 ((mV M v0 0) + (1 : Int32))) v0 2) - (1 : Int32)))]) [1, 2, 0] rfl ?_
    exact tJx4a65c_fastRemove_b59b0_34 hE _ _ _ _ h
  · have h := os_f h c4
    refine go_aload_n hC dJx4a65c_fastRemove_b59b0_22 rfl 2 rfl ?_
    refine go_iload_n hC dJx4a65c_fastRemove_b59b0_23 rfl 3 rfl ?_
    refine go_iconst hC dJx4a65c_fastRemove_b59b0_24 (v := (1 : Int32)) (by decide +kernel) ?_
    refine go_iadd hC dJx4a65c_fastRemove_b59b0_25 ?_
    refine go_aload_n hC dJx4a65c_fastRemove_b59b0_26 rfl 2 rfl ?_
    refine go_iload_n hC dJx4a65c_fastRemove_b59b0_27 rfl 3 rfl ?_
    refine go_iload_n hC dJx4a65c_fastRemove_b59b0_28 rfl 0 rfl ?_
    refine go_iload_n hC dJx4a65c_fastRemove_b59b0_29 rfl 3 rfl ?_
    refine go_isub hC dJx4a65c_fastRemove_b59b0_30 ?_
    obtain ⟨h5, h⟩ := os_1 h
    refine go_acopy hE m_551 m_214 m_215 m_216 h5.1 h5.2.1 h5.2.2.1 h5.2.2.2.1 h5.2.2.2.2.1 h5.2.2.2.2.2.1 h5.2.2.2.2.2.2.1 h5.2.2.2.2.2.2.2 (by decide) (by decide) (by simp [Value.category]) dJx4a65c_fastRemove_b59b0_31 ?_
    refine go_sub (lv' := [(0, .ref v0), (1, .ref v1), (3, .int ((mV (sV M v0 0 ((mV M v0 0) + (1 : Int32))) v0 2) - (1 : Int32)))]) [1, 2, 0] rfl ?_
    exact tJx4a65c_fastRemove_b59b0_34 hE _ _ _ _ h
theorem c_Jx4a65c_fastRemove_b59b0 (l : Launch) {x9 : Cx} {k9 : Nat} {M M9 : Mm} {r9 : Unit} {v0 : Nat} {v1 : Nat} {v2 : Int32} (h : fJx4a65c_fastRemove_b59b0 x9 k9 v0 v1 v2 M = some (r9, M9)) : Fn l x9 yJx4a65c_fastRemove_b59b0 cJx4a65c_fastRemove_b59b0 4 none 1 40 [.ref v0, .ref v1, .int v2] M none M9 :=
  Fn.of (by decide +kernel) (Nat.le_of_ble_eq_true rfl) rfl (fun K _ hE => tJx4a65c_fastRemove_b59b0_0 hE _ _ _ _ h)
/-! Jx4a65c_remove_915e3 -/
def fJx4a65c_remove_915e3 (x9 : Cx) (k9 : Nat) (v0 : Nat) (v1 : Int32) (M : Mm) : Option (Nat × Mm) :=
  if mK M v0 = 7 then ob2 (fJ15_checkIndex_7cf53 x9 k9 v1 (mV M v0 2) M) (fun r2 M3 => if mK M3 v0 = 7 then ob1 (mP M3 v0 1) (fun b7 => if (mK M3 b7 = 10 ∨ mK M3 b7 = 11) ∧ ¬ (v1 < 0 ∨ mN M3 b7 ≤ (v1).toNatClampNeg) then ob1 (mP M3 b7 (v1).toNatClampNeg) (fun b11 => if mK M3 v0 = 7 then ob2 (fJx4a65c_fastRemove_b59b0 x9 k9 v0 b7 v1 M3) (fun r12 M13 => some (b11, M13)) else none) else none) else none) else none
set_option maxRecDepth 100000 in
set_option maxHeartbeats 4000000 in
theorem tJx4a65c_remove_915e3_0 {x9 : Cx} {K : Ct} {k9 : Nat} {M0 M9 : Mm} {r9 : Nat} (hE : Ce x9 K RJx4a65c cJx4a65c_remove_915e3 4 (some (.object "java/lang/Object")) 2 63 "remove" M0) (v0 : Nat) (v1 : Int32) (M : Mm) (h : fJx4a65c_remove_915e3 x9 k9 v0 v1 M = some (r9, M9)) : Go x9 K 4 (Qf x9 K M0 (some (.ref r9)) M9) 0 [(0, .ref v0), (1, .int v1)] [] M := by
  have hC := hE.1
  have hnm := hE.2.2.2.2.2.2.2.1
  unfold fJx4a65c_remove_915e3 at h
  refine go_iload_n hC dJx4a65c_remove_915e3_0 rfl 1 rfl ?_
  refine go_aload_n hC dJx4a65c_remove_915e3_1 rfl 0 rfl ?_
  obtain ⟨h1, h⟩ := os_1 h
  refine go_getV 2 hC h1 rfl rfl (C := RJx4a65c) (T := TJx4a65c) (N := 3) rfl inlJx4a65c (by decide) m_70 (Or.inl rfl) dJx4a65c_remove_915e3_2 ?_
  obtain ⟨r2, M3, h4, h⟩ := os_c h
  refine go_callS (bytes := cJ15_checkIndex_7cf53) (maxL := 2) (ret := (some .int)) (n := 2) (As := [.int v1, .int (mV M v0 2)]) (st := []) hE (c_J15_checkIndex_7cf53 K.2.1 h4) (by unfold okY; decide +kernel) rfl m_224 m_221 m_222 m_223 rfl (by simp [Value.category]) (by decide) (by decide) dJx4a65c_remove_915e3_5 ?_
  refine go_eq (pc' := 8) (st' := [.int r2]) (M' := M3) (lv' := [(0, .ref v0), (1, .int v1)]) ?_ rfl rfl rfl rfl
  refine go_pop hC dJx4a65c_remove_915e3_8 rfl ?_
  refine go_aload_n hC dJx4a65c_remove_915e3_9 rfl 0 rfl ?_
  obtain ⟨h6, h⟩ := os_1 h
  obtain ⟨b7, h8, h⟩ := os_b h
  refine go_getR 1 hC h6 rfl rfl h8 (C := RJx4a65c) (T := TJx4a65c) (N := 3) rfl inlJx4a65c (by decide) m_37 (Or.inl rfl) dJx4a65c_remove_915e3_10 ?_
  refine go_astore_n (lv' := [(2, .ref b7), (0, .ref v0), (1, .int v1)]) hC dJx4a65c_remove_915e3_13 rfl (by decide) rfl ?_
  refine go_aload_n hC dJx4a65c_remove_915e3_14 rfl 0 rfl ?_
  refine go_iload_n hC dJx4a65c_remove_915e3_15 rfl 2 rfl ?_
  obtain ⟨h9, h⟩ := os_1 h
  obtain ⟨b11, h10, h⟩ := os_b h
  refine go_aald hC h9.1 h9.2 h10 dJx4a65c_remove_915e3_16 ?_
  refine go_astore_n (lv' := [(3, .ref b11), (2, .ref b7), (0, .ref v0), (1, .int v1)]) hC dJx4a65c_remove_915e3_17 rfl (by decide) rfl ?_
  refine go_aload_n hC dJx4a65c_remove_915e3_18 rfl 2 rfl ?_
  refine go_aload_n hC dJx4a65c_remove_915e3_19 rfl 1 rfl ?_
  refine go_iload_n hC dJx4a65c_remove_915e3_20 rfl 3 rfl ?_
  obtain ⟨h15, h⟩ := os_1 h
  obtain ⟨r12, M13, h14, h⟩ := os_c h
  refine go_callV (bytes := cJx4a65c_fastRemove_b59b0) (maxL := 4) (ret := none) (n := 2) (As := [.ref b7, .int v1]) (st := []) hE (c_Jx4a65c_fastRemove_b59b0 K.2.1 h14) (by unfold okY; decide +kernel) rfl h15 rfl (C := RJx4a65c) (T := TJx4a65c) (N := 3) rfl m_550 m_547 m_548 m_549 m_19 rfl (by simp [Value.category]) (by decide) (by decide) dJx4a65c_remove_915e3_21 ?_
  refine go_eq (pc' := 24) (st' := []) (M' := M13) (lv' := [(3, .ref b11), (2, .ref b7), (0, .ref v0), (1, .int v1)]) ?_ rfl rfl rfl rfl
  refine go_aload_n hC dJx4a65c_remove_915e3_24 rfl 0 rfl ?_
  cases h
  exact go_aret hE (by first | exact Or.inl ⟨_, rfl⟩ | exact Or.inr ⟨_, rfl⟩) dJx4a65c_remove_915e3_25
theorem c_Jx4a65c_remove_915e3 (l : Launch) {x9 : Cx} {k9 : Nat} {M M9 : Mm} {r9 : Nat} {v0 : Nat} {v1 : Int32} (h : fJx4a65c_remove_915e3 x9 k9 v0 v1 M = some (r9, M9)) : Fn l x9 yJx4a65c_remove_915e3 cJx4a65c_remove_915e3 4 (some (.object "java/lang/Object")) 2 63 [.ref v0, .int v1] M (some (.ref r9)) M9 :=
  Fn.of (by decide +kernel) (Nat.le_of_ble_eq_true rfl) rfl (fun K _ hE => tJx4a65c_remove_915e3_0 hE _ _ _ h)
/-! Jx4a65c_grow_92f84 -/
def fJx4a65c_grow_92f84_20 (x9 : Cx) (k9 : Nat) (v0 : Nat) (v1 : Int32) (v2 : Int32) (M : Mm) : Option (Nat × Mm) :=
  ob2 (fJ8_newLength_cabcc x9 k9 v2 (v1 - v2) (v2 >>> ((1 : Int32) &&& 31)) M) (fun r1 M2 => if mK M2 v0 = 7 then ob1 (mP M2 v0 1) (fun b6 => ob2 (fJ7_copyOf_1904c x9 k9 b6 r1 M2) (fun r8 M9 => if mK M9 v0 = 7 then some (r8, (sP M9 v0 1 (some r8))) else none)) else none)
set_option maxRecDepth 100000 in
set_option maxHeartbeats 4000000 in
theorem tJx4a65c_grow_92f84_20 {x9 : Cx} {K : Ct} {k9 : Nat} {M0 M9 : Mm} {r9 : Nat} (hE : Ce x9 K RJx4a65c cJx4a65c_grow_92f84 4 (some (.array (.object "java/lang/Object"))) 3 84 "grow" M0) (v0 : Nat) (v1 : Int32) (v2 : Int32) (M : Mm) (h : fJx4a65c_grow_92f84_20 x9 k9 v0 v1 v2 M = some (r9, M9)) : Go x9 K 4 (Qf x9 K M0 (some (.ref r9)) M9) 20 [(0, .ref v0), (1, .int v1), (2, .int v2)] [] M := by
  have hC := hE.1
  have hnm := hE.2.2.2.2.2.2.2.1
  unfold fJx4a65c_grow_92f84_20 at h
  refine go_iload_n hC dJx4a65c_grow_92f84_20 rfl 2 rfl ?_
  refine go_iload_n hC dJx4a65c_grow_92f84_21 rfl 1 rfl ?_
  refine go_iload_n hC dJx4a65c_grow_92f84_22 rfl 2 rfl ?_
  refine go_isub hC dJx4a65c_grow_92f84_23 ?_
  refine go_iload_n hC dJx4a65c_grow_92f84_24 rfl 2 rfl ?_
  refine go_iconst hC dJx4a65c_grow_92f84_25 (v := (1 : Int32)) (by decide +kernel) ?_
  refine go_ishr hC dJx4a65c_grow_92f84_26 ?_
  obtain ⟨r1, M2, h3, h⟩ := os_c h
  refine go_callS (bytes := cJ8_newLength_cabcc) (maxL := 4) (ret := (some .int)) (n := 3) (As := [.int v2, .int (v1 - v2), .int (v2 >>> ((1 : Int32) &&& 31))]) (st := []) hE (c_J8_newLength_cabcc K.2.1 h3) (by unfold okY; decide +kernel) rfl m_191 m_188 m_189 m_190 rfl (by simp [Value.category]) (by decide) (by decide) dJx4a65c_grow_92f84_27 ?_
  refine go_eq (pc' := 30) (st' := [.int r1]) (M' := M2) (lv' := [(0, .ref v0), (1, .int v1), (2, .int v2)]) ?_ rfl rfl rfl rfl
  refine go_istore_n (lv' := [(3, .int r1), (0, .ref v0), (1, .int v1), (2, .int v2)]) hC dJx4a65c_grow_92f84_30 rfl (by decide) rfl ?_
  refine go_aload_n hC dJx4a65c_grow_92f84_31 rfl 1 rfl ?_
  refine go_aload_n hC dJx4a65c_grow_92f84_32 rfl 1 rfl ?_
  obtain ⟨h5, h⟩ := os_1 h
  obtain ⟨b6, h7, h⟩ := os_b h
  refine go_getR 1 hC h5 rfl rfl h7 (C := RJx4a65c) (T := TJx4a65c) (N := 3) rfl inlJx4a65c (by decide) m_37 (Or.inl rfl) dJx4a65c_grow_92f84_33 ?_
  refine go_iload_n hC dJx4a65c_grow_92f84_36 rfl 0 rfl ?_
  obtain ⟨r8, M9, h10, h⟩ := os_c h
  refine go_callS (bytes := cJ7_copyOf_1904c) (maxL := 2) (ret := (some (.array (.object "java/lang/Object")))) (n := 2) (As := [.ref b6, .int r1]) (st := [.ref v0]) hE (c_J7_copyOf_1904c K.2.1 h10) (by unfold okY; decide +kernel) rfl m_200 m_197 m_198 m_199 rfl (by simp [Value.category]) (by decide) (by decide) dJx4a65c_grow_92f84_37 ?_
  refine go_eq (pc' := 40) (st' := [.ref r8, .ref v0]) (M' := M9) (lv' := [(3, .int r1), (0, .ref v0), (1, .int v1), (2, .int v2)]) ?_ rfl rfl rfl rfl
  refine go_dup_x1 hC dJx4a65c_grow_92f84_40 rfl rfl ?_
  obtain ⟨h12, h⟩ := os_1 h
  refine go_putR 1 hC h12 rfl rfl (C := RJx4a65c) (T := TJx4a65c) (N := 3) rfl inlJx4a65c tyJx4a65c tyJx4a65c_ok nmJx4a65c (by decide) m_37 (Or.inl rfl) (Or.inl rfl) (tyJx4a65c_ok 1 (by decide)) rfl rfl dJx4a65c_grow_92f84_41 ?_
  cases h
  exact go_aret hE (by first | exact Or.inl ⟨_, rfl⟩ | exact Or.inr ⟨_, rfl⟩) dJx4a65c_grow_92f84_44
def fJx4a65c_grow_92f84 (x9 : Cx) (k9 : Nat) (v0 : Nat) (v1 : Int32) (M : Mm) : Option (Nat × Mm) :=
  if mK M v0 = 7 then ob1 (mP M v0 1) (fun b2 => if b2 = xE x9 ∨ mK M b2 = 11 then if 0 < (lenE x9 M b2) then fJx4a65c_grow_92f84_20 x9 k9 v0 v1 (lenE x9 M b2) M else if mK M v0 = 7 then ob1 (mP M v0 1) (fun b7 => if b7 = (xE x9) then if ¬ (if (10 : Int32) < v1 then v1 else (10 : Int32)) < 0 ∧ ((if (10 : Int32) < v1 then v1 else (10 : Int32))).toNatClampNeg * 4 ≤ 536870912 ∧ mX M + 1 ≤ xC x9 ∧ mS M + ((if (10 : Int32) < v1 then v1 else (10 : Int32))).toNatClampNeg ≤ xL x9 then lt1 (nO M 11 ((if (10 : Int32) < v1 then v1 else (10 : Int32))).toNatClampNeg ((if (10 : Int32) < v1 then v1 else (10 : Int32))).toNatClampNeg) (fun M11 => if mK M11 v0 = 7 then some ((mX M), (sP M11 v0 1 (some (mX M)))) else none) else none else fJx4a65c_grow_92f84_20 x9 k9 v0 v1 (lenE x9 M b2) M) else none else none) else none
set_option maxRecDepth 100000 in
set_option maxHeartbeats 4000000 in
theorem tJx4a65c_grow_92f84_0 {x9 : Cx} {K : Ct} {k9 : Nat} {M0 M9 : Mm} {r9 : Nat} (hE : Ce x9 K RJx4a65c cJx4a65c_grow_92f84 4 (some (.array (.object "java/lang/Object"))) 3 84 "grow" M0) (v0 : Nat) (v1 : Int32) (M : Mm) (h : fJx4a65c_grow_92f84 x9 k9 v0 v1 M = some (r9, M9)) : Go x9 K 4 (Qf x9 K M0 (some (.ref r9)) M9) 0 [(0, .ref v0), (1, .int v1)] [] M := by
  have hC := hE.1
  have hnm := hE.2.2.2.2.2.2.2.1
  unfold fJx4a65c_grow_92f84 at h
  refine go_aload_n hC dJx4a65c_grow_92f84_0 rfl 0 rfl ?_
  obtain ⟨h1, h⟩ := os_1 h
  obtain ⟨b2, h3, h⟩ := os_b h
  refine go_getR 1 hC h1 rfl rfl h3 (C := RJx4a65c) (T := TJx4a65c) (N := 3) rfl inlJx4a65c (by decide) m_37 (Or.inl rfl) dJx4a65c_grow_92f84_1 ?_
  obtain ⟨h4, h⟩ := os_1 h
  refine go_alenE hC h4 dJx4a65c_grow_92f84_4 ?_
  refine go_istore_n (lv' := [(2, .int (lenE x9 M b2)), (0, .ref v0), (1, .int v1)]) hC dJx4a65c_grow_92f84_5 rfl (by decide) rfl ?_
  refine go_iload_n hC dJx4a65c_grow_92f84_6 rfl 0 rfl ?_
  refine go_if_gt (t := 20) hC dJx4a65c_grow_92f84_7 (by decide) (fun c5 => ?_) (fun c5 => ?_)
  · have h := os_t h c5
    refine go_sub (lv' := [(0, .ref v0), (1, .int v1), (2, .int (lenE x9 M b2))]) [1, 2, 0] rfl ?_
    exact tJx4a65c_grow_92f84_20 hE _ _ _ _ h
  · have h := os_f h c5
    refine go_aload_n hC dJx4a65c_grow_92f84_10 rfl 1 rfl ?_
    obtain ⟨h6, h⟩ := os_1 h
    obtain ⟨b7, h8, h⟩ := os_b h
    refine go_getR 1 hC h6 rfl rfl h8 (C := RJx4a65c) (T := TJx4a65c) (N := 3) rfl inlJx4a65c (by decide) m_37 (Or.inl rfl) dJx4a65c_grow_92f84_11 ?_
    refine go_getE hC m_36 dJx4a65c_grow_92f84_14 ?_
    refine go_acmp_eq (t := 45) hC dJx4a65c_grow_92f84_17 (by decide) (fun c9 => ?_) (fun c9 => ?_)
    · have h := os_t h c9
      refine go_aload_n hC dJx4a65c_grow_92f84_45 rfl 1 rfl ?_
      refine go_bipush hC dJx4a65c_grow_92f84_46 (v := (10 : Int32)) (by decide +kernel) ?_
      refine go_iload_n hC dJx4a65c_grow_92f84_48 rfl 2 rfl ?_
      refine go_mmax hE m_183 m_184 m_185 m_186 (by decide) (by decide) (by simp [Value.category]) dJx4a65c_grow_92f84_49 ?_
      obtain ⟨h10, h⟩ := os_1 h
      refine go_anewO hE m_187 h10.1 h10.2.1 h10.2.2.1 h10.2.2.2 dJx4a65c_grow_92f84_52 ?_
      obtain ⟨M11, e12, h⟩ := os_l h
      refine go_eq (pc' := 55) (st' := [.ref (mX M), .ref v0]) (M' := M11) (lv' := [(2, .int (lenE x9 M b2)), (0, .ref v0), (1, .int v1)]) ?_ rfl rfl rfl e12
      refine go_dup_x1 hC dJx4a65c_grow_92f84_55 rfl rfl ?_
      obtain ⟨h13, h⟩ := os_1 h
      refine go_putR 1 hC h13 rfl rfl (C := RJx4a65c) (T := TJx4a65c) (N := 3) rfl inlJx4a65c tyJx4a65c tyJx4a65c_ok nmJx4a65c (by decide) m_37 (Or.inl rfl) (Or.inl rfl) (tyJx4a65c_ok 1 (by decide)) rfl rfl dJx4a65c_grow_92f84_56 ?_
      cases h
      exact go_aret hE (by first | exact Or.inl ⟨_, rfl⟩ | exact Or.inr ⟨_, rfl⟩) dJx4a65c_grow_92f84_59
    · have h := os_f h c9
      refine go_sub (lv' := [(0, .ref v0), (1, .int v1), (2, .int (lenE x9 M b2))]) [1, 2, 0] rfl ?_
      exact tJx4a65c_grow_92f84_20 hE _ _ _ _ h
theorem c_Jx4a65c_grow_92f84 (l : Launch) {x9 : Cx} {k9 : Nat} {M M9 : Mm} {r9 : Nat} {v0 : Nat} {v1 : Int32} (h : fJx4a65c_grow_92f84 x9 k9 v0 v1 M = some (r9, M9)) : Fn l x9 yJx4a65c_grow_92f84 cJx4a65c_grow_92f84 4 (some (.array (.object "java/lang/Object"))) 3 84 [.ref v0, .int v1] M (some (.ref r9)) M9 :=
  Fn.of (by decide +kernel) (Nat.le_of_ble_eq_true rfl) rfl (fun K _ hE => tJx4a65c_grow_92f84_0 hE _ _ _ h)
/-! Jx4a65c_grow_d5877 -/
def fJx4a65c_grow_d5877 (x9 : Cx) (k9 : Nat) (v0 : Nat) (M : Mm) : Option (Nat × Mm) :=
  if mK M v0 = 7 then if mK M v0 = 7 then ob2 (fJx4a65c_grow_92f84 x9 k9 v0 ((mV M v0 2) + (1 : Int32)) M) (fun r2 M3 => some (r2, M3)) else none else none
set_option maxRecDepth 100000 in
set_option maxHeartbeats 4000000 in
theorem tJx4a65c_grow_d5877_0 {x9 : Cx} {K : Ct} {k9 : Nat} {M0 M9 : Mm} {r9 : Nat} (hE : Ce x9 K RJx4a65c cJx4a65c_grow_d5877 1 (some (.array (.object "java/lang/Object"))) 4 107 "grow" M0) (v0 : Nat) (M : Mm) (h : fJx4a65c_grow_d5877 x9 k9 v0 M = some (r9, M9)) : Go x9 K 1 (Qf x9 K M0 (some (.ref r9)) M9) 0 [(0, .ref v0)] [] M := by
  have hC := hE.1
  have hnm := hE.2.2.2.2.2.2.2.1
  unfold fJx4a65c_grow_d5877 at h
  refine go_aload_n hC dJx4a65c_grow_d5877_0 rfl 0 rfl ?_
  refine go_aload_n hC dJx4a65c_grow_d5877_1 rfl 0 rfl ?_
  obtain ⟨h1, h⟩ := os_1 h
  refine go_getV 2 hC h1 rfl rfl (C := RJx4a65c) (T := TJx4a65c) (N := 3) rfl inlJx4a65c (by decide) m_70 (Or.inl rfl) dJx4a65c_grow_d5877_2 ?_
  refine go_iconst hC dJx4a65c_grow_d5877_5 (v := (1 : Int32)) (by decide +kernel) ?_
  refine go_iadd hC dJx4a65c_grow_d5877_6 ?_
  obtain ⟨h5, h⟩ := os_1 h
  obtain ⟨r2, M3, h4, h⟩ := os_c h
  refine go_callV (bytes := cJx4a65c_grow_92f84) (maxL := 4) (ret := (some (.array (.object "java/lang/Object")))) (n := 1) (As := [.int ((mV M v0 2) + (1 : Int32))]) (st := []) hE (c_Jx4a65c_grow_92f84 K.2.1 h4) (by unfold okY; decide +kernel) rfl h5 rfl (C := RJx4a65c) (T := TJx4a65c) (N := 3) rfl m_182 m_179 m_180 m_181 m_19 rfl (by simp [Value.category]) (by decide) (by decide) dJx4a65c_grow_d5877_7 ?_
  refine go_eq (pc' := 10) (st' := [.ref r2]) (M' := M3) (lv' := [(0, .ref v0)]) ?_ rfl rfl rfl rfl
  cases h
  exact go_aret hE (by first | exact Or.inl ⟨_, rfl⟩ | exact Or.inr ⟨_, rfl⟩) dJx4a65c_grow_d5877_10
theorem c_Jx4a65c_grow_d5877 (l : Launch) {x9 : Cx} {k9 : Nat} {M M9 : Mm} {r9 : Nat} {v0 : Nat} (h : fJx4a65c_grow_d5877 x9 k9 v0 M = some (r9, M9)) : Fn l x9 yJx4a65c_grow_d5877 cJx4a65c_grow_d5877 1 (some (.array (.object "java/lang/Object"))) 4 107 [.ref v0] M (some (.ref r9)) M9 :=
  Fn.of (by decide +kernel) (Nat.le_of_ble_eq_true rfl) rfl (fun K _ hE => tJx4a65c_grow_d5877_0 hE _ _ h)
/-! Jx4a65c_add_72be8 -/
def fJx4a65c_add_72be8_11 (x9 : Cx) (k9 : Nat) (v0 : Nat) (v1 : Nat) (v2 : Nat) (v3 : Int32) (M : Mm) : Option (Unit × Mm) :=
  if mK M v2 = 11 ∧ (mK M v1 = 2 ∨ mK M v1 = 4) ∧ ¬ (v3 < 0 ∨ mN M v2 ≤ (v3).toNatClampNeg) then if mK (sP M v2 (v3).toNatClampNeg (some v1)) v0 = 7 then some ((), (sV (sP M v2 (v3).toNatClampNeg (some v1)) v0 2 (v3 + (1 : Int32)))) else none else none
set_option maxRecDepth 100000 in
set_option maxHeartbeats 4000000 in
theorem tJx4a65c_add_72be8_11 {x9 : Cx} {K : Ct} {k9 : Nat} {M0 M9 : Mm} {r9 : Unit} (hE : Ce x9 K RJx4a65c cJx4a65c_add_72be8 4 none 5 127 "add" M0) (v0 : Nat) (v1 : Nat) (v2 : Nat) (v3 : Int32) (M : Mm) (h : fJx4a65c_add_72be8_11 x9 k9 v0 v1 v2 v3 M = some (r9, M9)) : Go x9 K 4 (Qf x9 K M0 none M9) 11 [(0, .ref v0), (1, .ref v1), (2, .ref v2), (3, .int v3)] [] M := by
  have hC := hE.1
  have hnm := hE.2.2.2.2.2.2.2.1
  unfold fJx4a65c_add_72be8_11 at h
  refine go_aload_n hC dJx4a65c_add_72be8_11 rfl 2 rfl ?_
  refine go_iload_n hC dJx4a65c_add_72be8_12 rfl 3 rfl ?_
  refine go_aload_n hC dJx4a65c_add_72be8_13 rfl 1 rfl ?_
  obtain ⟨h1, h⟩ := os_1 h
  refine go_aastO hC h1.1 h1.2.1 h1.2.2 dJx4a65c_add_72be8_14 ?_
  refine go_aload_n hC dJx4a65c_add_72be8_15 rfl 0 rfl ?_
  refine go_iload_n hC dJx4a65c_add_72be8_16 rfl 3 rfl ?_
  refine go_iconst hC dJx4a65c_add_72be8_17 (v := (1 : Int32)) (by decide +kernel) ?_
  refine go_iadd hC dJx4a65c_add_72be8_18 ?_
  obtain ⟨h2, h⟩ := os_1 h
  refine go_putV 2 hC h2 rfl rfl (C := RJx4a65c) (T := TJx4a65c) (N := 3) rfl inlJx4a65c tyJx4a65c tyJx4a65c_ok nmJx4a65c (by decide) m_70 (Or.inl rfl) (Or.inl rfl) (tyJx4a65c_ok 2 (by decide)) rfl rfl dJx4a65c_add_72be8_19 ?_
  cases h
  exact go_vret hE dJx4a65c_add_72be8_22
def fJx4a65c_add_72be8 (x9 : Cx) (k9 : Nat) (v0 : Nat) (v1 : Nat) (v2 : Nat) (v3 : Int32) (M : Mm) : Option (Unit × Mm) :=
  if v2 = xE x9 ∨ mK M v2 = 11 then if v3 = (lenE x9 M v2) then if mK M v0 = 7 then ob2 (fJx4a65c_grow_d5877 x9 k9 v0 M) (fun r3 M4 => fJx4a65c_add_72be8_11 x9 k9 v0 v1 r3 v3 M4) else none else fJx4a65c_add_72be8_11 x9 k9 v0 v1 v2 v3 M else none
set_option maxRecDepth 100000 in
set_option maxHeartbeats 4000000 in
theorem tJx4a65c_add_72be8_0 {x9 : Cx} {K : Ct} {k9 : Nat} {M0 M9 : Mm} {r9 : Unit} (hE : Ce x9 K RJx4a65c cJx4a65c_add_72be8 4 none 5 127 "add" M0) (v0 : Nat) (v1 : Nat) (v2 : Nat) (v3 : Int32) (M : Mm) (h : fJx4a65c_add_72be8 x9 k9 v0 v1 v2 v3 M = some (r9, M9)) : Go x9 K 4 (Qf x9 K M0 none M9) 0 [(0, .ref v0), (1, .ref v1), (2, .ref v2), (3, .int v3)] [] M := by
  have hC := hE.1
  have hnm := hE.2.2.2.2.2.2.2.1
  unfold fJx4a65c_add_72be8 at h
  refine go_iload_n hC dJx4a65c_add_72be8_0 rfl 3 rfl ?_
  refine go_aload_n hC dJx4a65c_add_72be8_1 rfl 2 rfl ?_
  obtain ⟨h1, h⟩ := os_1 h
  refine go_alenE hC h1 dJx4a65c_add_72be8_2 ?_
  refine go_icmp_ne (t := 11) hC dJx4a65c_add_72be8_3 (by decide) (fun c2 => ?_) (fun c2 => ?_)
  · have h := os_f h c2
    exact tJx4a65c_add_72be8_11 hE _ _ _ _ _ h
  · have h := os_t h c2
    refine go_aload_n hC dJx4a65c_add_72be8_6 rfl 0 rfl ?_
    obtain ⟨h6, h⟩ := os_1 h
    obtain ⟨r3, M4, h5, h⟩ := os_c h
    refine go_callV (bytes := cJx4a65c_grow_d5877) (maxL := 1) (ret := (some (.array (.object "java/lang/Object")))) (n := 0) (As := []) (st := []) hE (c_Jx4a65c_grow_d5877 K.2.1 h5) (by unfold okY; decide +kernel) rfl h6 rfl (C := RJx4a65c) (T := TJx4a65c) (N := 3) rfl m_178 m_175 m_176 m_177 m_19 rfl (by simp [Value.category]) (by decide) (by decide) dJx4a65c_add_72be8_7 ?_
    refine go_eq (pc' := 10) (st' := [.ref r3]) (M' := M4) (lv' := [(0, .ref v0), (1, .ref v1), (2, .ref v2), (3, .int v3)]) ?_ rfl rfl rfl rfl
    refine go_astore_n (lv' := [(2, .ref r3), (0, .ref v0), (1, .ref v1), (3, .int v3)]) hC dJx4a65c_add_72be8_10 rfl (by decide) rfl ?_
    refine go_sub (lv' := [(0, .ref v0), (1, .ref v1), (2, .ref r3), (3, .int v3)]) [1, 2, 0, 3] rfl ?_
    exact tJx4a65c_add_72be8_11 hE _ _ _ _ _ h
theorem c_Jx4a65c_add_72be8 (l : Launch) {x9 : Cx} {k9 : Nat} {M M9 : Mm} {r9 : Unit} {v0 : Nat} {v1 : Nat} {v2 : Nat} {v3 : Int32} (h : fJx4a65c_add_72be8 x9 k9 v0 v1 v2 v3 M = some (r9, M9)) : Fn l x9 yJx4a65c_add_72be8 cJx4a65c_add_72be8 4 none 5 127 [.ref v0, .ref v1, .ref v2, .int v3] M none M9 :=
  Fn.of (by decide +kernel) (Nat.le_of_ble_eq_true rfl) rfl (fun K _ hE => tJx4a65c_add_72be8_0 hE _ _ _ _ _ h)
/-! Jx4a65c_add_9ea2d -/
def fJx4a65c_add_9ea2d (x9 : Cx) (k9 : Nat) (v0 : Nat) (v1 : Nat) (M : Mm) : Option (Int32 × Mm) :=
  if mK M v0 = 7 then if mK M v0 = 7 then if mK (sV M v0 0 ((mV M v0 0) + (1 : Int32))) v0 = 7 then ob1 (mP (sV M v0 0 ((mV M v0 0) + (1 : Int32))) v0 1) (fun b4 => if mK (sV M v0 0 ((mV M v0 0) + (1 : Int32))) v0 = 7 then if mK (sV M v0 0 ((mV M v0 0) + (1 : Int32))) v0 = 7 then ob2 (fJx4a65c_add_72be8 x9 k9 v0 v1 b4 (mV (sV M v0 0 ((mV M v0 0) + (1 : Int32))) v0 2) (sV M v0 0 ((mV M v0 0) + (1 : Int32)))) (fun r7 M8 => if (1 : Int32) = 0 ∨ (1 : Int32) = 1 then some ((1 : Int32), M8) else none) else none else none) else none else none else none
set_option maxRecDepth 100000 in
set_option maxHeartbeats 4000000 in
theorem tJx4a65c_add_9ea2d_0 {x9 : Cx} {K : Ct} {k9 : Nat} {M0 M9 : Mm} {r9 : Int32} (hE : Ce x9 K RJx4a65c cJx4a65c_add_9ea2d 2 (some .boolean) 6 150 "add" M0) (v0 : Nat) (v1 : Nat) (M : Mm) (h : fJx4a65c_add_9ea2d x9 k9 v0 v1 M = some (r9, M9)) : Go x9 K 2 (Qf x9 K M0 (some (.int r9)) M9) 0 [(0, .ref v0), (1, .ref v1)] [] M := by
  have hC := hE.1
  have hnm := hE.2.2.2.2.2.2.2.1
  unfold fJx4a65c_add_9ea2d at h
  refine go_aload_n hC dJx4a65c_add_9ea2d_0 rfl 0 rfl ?_
  refine go_dup hC dJx4a65c_add_9ea2d_1 rfl ?_
  obtain ⟨h1, h⟩ := os_1 h
  refine go_getV 0 hC h1 rfl rfl (C := RJx4a65c) (T := TJx4a65c) (N := 3) rfl inlJx4a65c (by decide) m_68 (Or.inr m_69) dJx4a65c_add_9ea2d_2 ?_
  refine go_iconst hC dJx4a65c_add_9ea2d_5 (v := (1 : Int32)) (by decide +kernel) ?_
  refine go_iadd hC dJx4a65c_add_9ea2d_6 ?_
  obtain ⟨h2, h⟩ := os_1 h
  refine go_putV 0 hC h2 rfl rfl (C := RJx4a65c) (T := TJx4a65c) (N := 3) rfl inlJx4a65c tyJx4a65c tyJx4a65c_ok nmJx4a65c (by decide) m_68 (Or.inr m_69) (Or.inl rfl) (tyJx4a65c_ok 0 (by decide)) rfl rfl dJx4a65c_add_9ea2d_7 ?_
  refine go_aload_n hC dJx4a65c_add_9ea2d_10 rfl 0 rfl ?_
  refine go_aload_n hC dJx4a65c_add_9ea2d_11 rfl 1 rfl ?_
  refine go_aload_n hC dJx4a65c_add_9ea2d_12 rfl 0 rfl ?_
  obtain ⟨h3, h⟩ := os_1 h
  obtain ⟨b4, h5, h⟩ := os_b h
  refine go_getR 1 hC h3 rfl rfl h5 (C := RJx4a65c) (T := TJx4a65c) (N := 3) rfl inlJx4a65c (by decide) m_37 (Or.inl rfl) dJx4a65c_add_9ea2d_13 ?_
  refine go_aload_n hC dJx4a65c_add_9ea2d_16 rfl 0 rfl ?_
  obtain ⟨h6, h⟩ := os_1 h
  refine go_getV 2 hC h6 rfl rfl (C := RJx4a65c) (T := TJx4a65c) (N := 3) rfl inlJx4a65c (by decide) m_70 (Or.inl rfl) dJx4a65c_add_9ea2d_17 ?_
  obtain ⟨h10, h⟩ := os_1 h
  obtain ⟨r7, M8, h9, h⟩ := os_c h
  refine go_callV (bytes := cJx4a65c_add_72be8) (maxL := 4) (ret := none) (n := 3) (As := [.ref v1, .ref b4, .int (mV (sV M v0 0 ((mV M v0 0) + (1 : Int32))) v0 2)]) (st := []) hE (c_Jx4a65c_add_72be8 K.2.1 h9) (by unfold okY; decide +kernel) rfl h10 rfl (C := RJx4a65c) (T := TJx4a65c) (N := 3) rfl m_174 m_171 m_172 m_173 m_19 rfl (by simp [Value.category]) (by decide) (by decide) dJx4a65c_add_9ea2d_20 ?_
  refine go_eq (pc' := 23) (st' := []) (M' := M8) (lv' := [(0, .ref v0), (1, .ref v1)]) ?_ rfl rfl rfl rfl
  refine go_iconst hC dJx4a65c_add_9ea2d_23 (v := (1 : Int32)) (by decide +kernel) ?_
  obtain ⟨h11, h⟩ := os_1 h
  cases h
  exact go_zret hE h11 dJx4a65c_add_9ea2d_24
theorem c_Jx4a65c_add_9ea2d (l : Launch) {x9 : Cx} {k9 : Nat} {M M9 : Mm} {r9 : Int32} {v0 : Nat} {v1 : Nat} (h : fJx4a65c_add_9ea2d x9 k9 v0 v1 M = some (r9, M9)) : Fn l x9 yJx4a65c_add_9ea2d cJx4a65c_add_9ea2d 2 (some .boolean) 6 150 [.ref v0, .ref v1] M (some (.int r9)) M9 :=
  Fn.of (by decide +kernel) (Nat.le_of_ble_eq_true rfl) rfl (fun K _ hE => tJx4a65c_add_9ea2d_0 hE _ _ _ h)
