/-! X5_thrown -/
def fX5_thrown (x9 : Cx) (k9 : Nat) (v0 : Nat) (M : Mm) : Option (Int32 × Mm) :=
  if mK M v0 = 6 then some ((mV M v0 27), M) else none
set_option maxRecDepth 100000 in
set_option maxHeartbeats 4000000 in
theorem tX5_thrown_0 {x9 : Cx} {K : Ct} {k9 : Nat} {M0 M9 : Mm} {r9 : Int32} (hE : Ce x9 K RX5 cX5_thrown 1 (some .int) 0 0 "thrown" M0) (v0 : Nat) (M : Mm) (h : fX5_thrown x9 k9 v0 M = some (r9, M9)) : Go x9 K 1 (Qf x9 K M0 (some (.int r9)) M9) 0 [(0, .ref v0)] [] M := by
  have hC := hE.1
  have hnm := hE.2.2.2.2.2.2.2.1
  unfold fX5_thrown at h
  refine go_aload_n hC dX5_thrown_0 rfl 0 rfl ?_
  obtain ⟨h1, h⟩ := os_1 h
  refine go_getV 27 hC h1 rfl rfl (C := RX5) (T := TX5) (N := 28) rfl inlX5 (by decide) m_128 (Or.inl rfl) dX5_thrown_1 ?_
  cases h
  exact go_iret hE dX5_thrown_4
theorem c_X5_thrown (l : Launch) {x9 : Cx} {k9 : Nat} {M M9 : Mm} {r9 : Int32} {v0 : Nat} (h : fX5_thrown x9 k9 v0 M = some (r9, M9)) : Fn l x9 yX5_thrown cX5_thrown 1 (some .int) 0 0 [.ref v0] M (some (.int r9)) M9 :=
  Fn.of (by decide +kernel) (Nat.le_of_ble_eq_true rfl) rfl (fun K _ hE => tX5_thrown_0 hE _ _ h)
/-! X5_fails -/
def fX5_fails_10 (x9 : Cx) (k9 : Nat) (v1 : Int32) (s0 : Nat) (s1 : Int32) (M : Mm) : Option (Int32 × Mm) :=
  if mK M s0 = 6 then if v1 = 0 ∨ v1 = 1 then some (v1, (sV M s0 27 s1)) else none else none
set_option maxRecDepth 100000 in
set_option maxHeartbeats 4000000 in
theorem tX5_fails_10 {x9 : Cx} {K : Ct} {k9 : Nat} {M0 M9 : Mm} {r9 : Int32} (hE : Ce x9 K RX5 cX5_fails 3 (some .boolean) 0 0 "fails" M0) (v1 : Int32) (s0 : Nat) (s1 : Int32) (M : Mm) (h : fX5_fails_10 x9 k9 v1 s0 s1 M = some (r9, M9)) : Go x9 K 3 (Qf x9 K M0 (some (.int r9)) M9) 10 [(1, .int v1)] [.int s1, .ref s0] M := by
  have hC := hE.1
  have hnm := hE.2.2.2.2.2.2.2.1
  unfold fX5_fails_10 at h
  obtain ⟨h1, h⟩ := os_1 h
  refine go_putV 27 hC h1 rfl rfl (C := RX5) (T := TX5) (N := 28) rfl inlX5 tyX5 tyX5_ok nmX5 (by decide) m_128 (Or.inl rfl) (Or.inl rfl) (tyX5_ok 27 (by decide)) rfl rfl dX5_fails_10 ?_
  refine go_iload_n hC dX5_fails_13 rfl 0 rfl ?_
  obtain ⟨h2, h⟩ := os_1 h
  cases h
  exact go_zret hE h2 dX5_fails_14
def fX5_fails (x9 : Cx) (k9 : Nat) (v0 : Nat) (v1 : Int32) (v2 : Int32) (M : Mm) : Option (Int32 × Mm) :=
  if v1 = 0 then fX5_fails_10 x9 k9 v1 v0 (0 : Int32) M else fX5_fails_10 x9 k9 v1 v0 v2 M
set_option maxRecDepth 100000 in
set_option maxHeartbeats 4000000 in
theorem tX5_fails_0 {x9 : Cx} {K : Ct} {k9 : Nat} {M0 M9 : Mm} {r9 : Int32} (hE : Ce x9 K RX5 cX5_fails 3 (some .boolean) 0 0 "fails" M0) (v0 : Nat) (v1 : Int32) (v2 : Int32) (M : Mm) (h : fX5_fails x9 k9 v0 v1 v2 M = some (r9, M9)) : Go x9 K 3 (Qf x9 K M0 (some (.int r9)) M9) 0 [(0, .ref v0), (1, .int v1), (2, .int v2)] [] M := by
  have hC := hE.1
  have hnm := hE.2.2.2.2.2.2.2.1
  unfold fX5_fails at h
  refine go_aload_n hC dX5_fails_0 rfl 0 rfl ?_
  refine go_iload_n hC dX5_fails_1 rfl 1 rfl ?_
  refine go_if_eq (t := 9) hC dX5_fails_2 (by decide) (fun c1 => ?_) (fun c1 => ?_)
  · have h := os_t h c1
    refine go_iconst hC dX5_fails_9 (v := (0 : Int32)) (by decide +kernel) ?_
    refine go_sub (lv' := [(1, .int v1)]) [1] rfl ?_
    exact tX5_fails_10 hE _ _ _ _ h
  · have h := os_f h c1
    refine go_iload_n hC dX5_fails_5 rfl 2 rfl ?_
    refine go_goto (t := 10) hC dX5_fails_6 (by decide) ?_
    refine go_sub (lv' := [(1, .int v1)]) [1] rfl ?_
    exact tX5_fails_10 hE _ _ _ _ h
theorem c_X5_fails (l : Launch) {x9 : Cx} {k9 : Nat} {M M9 : Mm} {r9 : Int32} {v0 : Nat} {v1 : Int32} {v2 : Int32} (h : fX5_fails x9 k9 v0 v1 v2 M = some (r9, M9)) : Fn l x9 yX5_fails cX5_fails 3 (some .boolean) 0 0 [.ref v0, .int v1, .int v2] M (some (.int r9)) M9 :=
  Fn.of (by decide +kernel) (Nat.le_of_ble_eq_true rfl) rfl (fun K _ hE => tX5_fails_0 hE _ _ _ _ h)
/-! X5_begins -/
def fX5_begins_68 (x9 : Cx) (k9 : Nat) : Nat → Nat → Int32 → Mm → Option (Unit × Mm)
  | 0, _, _, _ => none
  | n9 + 1, v0, v2, M => if (100 : Int32) ≤ v2 then some ((), M) else if mK M v0 = 6 then ob1 (mP M v0 3) (fun b3 => if mK M b3 = 8 ∧ ¬ (v2 < 0 ∨ mN M b3 ≤ (v2).toNatClampNeg) then fX5_begins_68 x9 k9 n9 v0 (v2 + 1) (sV M b3 (v2).toNatClampNeg (-1 : Int32)) else none) else none
set_option maxRecDepth 100000 in
set_option maxHeartbeats 4000000 in
theorem tX5_begins_68 {x9 : Cx} {K : Ct} {k9 : Nat} {M0 M9 : Mm} {r9 : Unit} (hE : Ce x9 K RX5 cX5_begins 3 none 0 0 "begins" M0) : ∀ (n9 : Nat) (v0 : Nat) (v2 : Int32) (M : Mm), fX5_begins_68 x9 k9 n9 v0 v2 M = some (r9, M9) → Go x9 K 3 (Qf x9 K M0 none M9) 68 [(0, .ref v0), (2, .int v2)] [] M := by
  have hC := hE.1
  have hnm := hE.2.2.2.2.2.2.2.1
  intro n9
  induction n9 with
  | zero => intro _ _ _ h; cases h
  | succ n9 ih =>
    intro v0 v2 M h
    rw [fX5_begins_68] at h
    refine go_iload_n hC dX5_begins_68 rfl 1 rfl ?_
    refine go_bipush hC dX5_begins_69 (v := (100 : Int32)) (by decide +kernel) ?_
    refine go_icmp_ge (t := 87) hC dX5_begins_71 (by decide) (fun c1 => ?_) (fun c1 => ?_)
    · have h := os_t h c1
      cases h
      exact go_vret hE dX5_begins_87
    · have h := os_f h c1
      refine go_aload_n hC dX5_begins_74 rfl 0 rfl ?_
      obtain ⟨h2, h⟩ := os_1 h
      obtain ⟨b3, h4, h⟩ := os_b h
      refine go_getR 3 hC h2 rfl rfl h4 (C := RX5) (T := TX5) (N := 28) rfl inlX5 (by decide) m_79 (Or.inl rfl) dX5_begins_75 ?_
      refine go_iload_n hC dX5_begins_78 rfl 1 rfl ?_
      refine go_iconst hC dX5_begins_79 (v := (-1 : Int32)) (by decide +kernel) ?_
      obtain ⟨h5, h⟩ := os_1 h
      refine go_iast hC h5.1 h5.2 dX5_begins_80 ?_
      refine go_iinc (q := 1) (v := (v2 + 1)) (lv' := [(2, .int (v2 + 1)), (0, .ref v0)]) hC dX5_begins_81 rfl rfl (by decide) rfl ?_
      refine go_goto (t := 68) hC dX5_begins_84 (by decide) ?_
      refine go_sub (lv' := [(0, .ref v0), (2, .int (v2 + 1))]) [1, 0] rfl ?_
      exact ih _ _ _ h
def fX5_begins_48 (x9 : Cx) (k9 : Nat) : Nat → Nat → Int32 → Mm → Option (Unit × Mm)
  | 0, _, _, _ => none
  | n9 + 1, v0, v2, M => if (5 : Int32) ≤ v2 then fX5_begins_68 x9 k9 k9 v0 (0 : Int32) M else if mK M v0 = 6 then ob1 (mP M v0 2) (fun b3 => if mK M b3 = 9 ∧ ¬ (v2 < 0 ∨ mN M b3 ≤ (v2).toNatClampNeg) then fX5_begins_48 x9 k9 n9 v0 (v2 + 1) (sV M b3 (v2).toNatClampNeg (vp_nar .boolean (0 : Int32))) else none) else none
set_option maxRecDepth 100000 in
set_option maxHeartbeats 4000000 in
theorem tX5_begins_48 {x9 : Cx} {K : Ct} {k9 : Nat} {M0 M9 : Mm} {r9 : Unit} (hE : Ce x9 K RX5 cX5_begins 3 none 0 0 "begins" M0) : ∀ (n9 : Nat) (v0 : Nat) (v2 : Int32) (M : Mm), fX5_begins_48 x9 k9 n9 v0 v2 M = some (r9, M9) → Go x9 K 3 (Qf x9 K M0 none M9) 48 [(0, .ref v0), (2, .int v2)] [] M := by
  have hC := hE.1
  have hnm := hE.2.2.2.2.2.2.2.1
  intro n9
  induction n9 with
  | zero => intro _ _ _ h; cases h
  | succ n9 ih =>
    intro v0 v2 M h
    rw [fX5_begins_48] at h
    refine go_iload_n hC dX5_begins_48 rfl 1 rfl ?_
    refine go_iconst hC dX5_begins_49 (v := (5 : Int32)) (by decide +kernel) ?_
    refine go_icmp_ge (t := 66) hC dX5_begins_50 (by decide) (fun c1 => ?_) (fun c1 => ?_)
    · have h := os_t h c1
      refine go_iconst hC dX5_begins_66 (v := (0 : Int32)) (by decide +kernel) ?_
      refine go_istore_n (lv' := [(2, .int (0 : Int32)), (0, .ref v0)]) hC dX5_begins_67 rfl (by decide) rfl ?_
      refine go_sub (lv' := [(0, .ref v0), (2, .int (0 : Int32))]) [1, 0] rfl ?_
      exact tX5_begins_68 hE k9 _ _ _ h
    · have h := os_f h c1
      refine go_aload_n hC dX5_begins_53 rfl 0 rfl ?_
      obtain ⟨h2, h⟩ := os_1 h
      obtain ⟨b3, h4, h⟩ := os_b h
      refine go_getR 2 hC h2 rfl rfl h4 (C := RX5) (T := TX5) (N := 28) rfl inlX5 (by decide) m_78 (Or.inl rfl) dX5_begins_54 ?_
      refine go_iload_n hC dX5_begins_57 rfl 1 rfl ?_
      refine go_iconst hC dX5_begins_58 (v := (0 : Int32)) (by decide +kernel) ?_
      obtain ⟨h5, h⟩ := os_1 h
      refine go_zast hC h5.1 h5.2 dX5_begins_59 ?_
      refine go_iinc (q := 1) (v := (v2 + 1)) (lv' := [(2, .int (v2 + 1)), (0, .ref v0)]) hC dX5_begins_60 rfl rfl (by decide) rfl ?_
      refine go_goto (t := 48) hC dX5_begins_63 (by decide) ?_
      refine go_sub (lv' := [(0, .ref v0), (2, .int (v2 + 1))]) [1, 0] rfl ?_
      exact ih _ _ _ h
def fX5_begins_27 (x9 : Cx) (k9 : Nat) : Nat → Nat → Int32 → Mm → Option (Unit × Mm)
  | 0, _, _, _ => none
  | n9 + 1, v0, v2, M => if (25 : Int32) ≤ v2 then fX5_begins_48 x9 k9 k9 v0 (0 : Int32) M else if mK M v0 = 6 then ob1 (mP M v0 1) (fun b3 => if mK M b3 = 8 ∧ ¬ (v2 < 0 ∨ mN M b3 ≤ (v2).toNatClampNeg) then fX5_begins_27 x9 k9 n9 v0 (v2 + 1) (sV M b3 (v2).toNatClampNeg (0 : Int32)) else none) else none
set_option maxRecDepth 100000 in
set_option maxHeartbeats 4000000 in
theorem tX5_begins_27 {x9 : Cx} {K : Ct} {k9 : Nat} {M0 M9 : Mm} {r9 : Unit} (hE : Ce x9 K RX5 cX5_begins 3 none 0 0 "begins" M0) : ∀ (n9 : Nat) (v0 : Nat) (v2 : Int32) (M : Mm), fX5_begins_27 x9 k9 n9 v0 v2 M = some (r9, M9) → Go x9 K 3 (Qf x9 K M0 none M9) 27 [(0, .ref v0), (2, .int v2)] [] M := by
  have hC := hE.1
  have hnm := hE.2.2.2.2.2.2.2.1
  intro n9
  induction n9 with
  | zero => intro _ _ _ h; cases h
  | succ n9 ih =>
    intro v0 v2 M h
    rw [fX5_begins_27] at h
    refine go_iload_n hC dX5_begins_27 rfl 1 rfl ?_
    refine go_bipush hC dX5_begins_28 (v := (25 : Int32)) (by decide +kernel) ?_
    refine go_icmp_ge (t := 46) hC dX5_begins_30 (by decide) (fun c1 => ?_) (fun c1 => ?_)
    · have h := os_t h c1
      refine go_iconst hC dX5_begins_46 (v := (0 : Int32)) (by decide +kernel) ?_
      refine go_istore_n (lv' := [(2, .int (0 : Int32)), (0, .ref v0)]) hC dX5_begins_47 rfl (by decide) rfl ?_
      refine go_sub (lv' := [(0, .ref v0), (2, .int (0 : Int32))]) [1, 0] rfl ?_
      exact tX5_begins_48 hE k9 _ _ _ h
    · have h := os_f h c1
      refine go_aload_n hC dX5_begins_33 rfl 0 rfl ?_
      obtain ⟨h2, h⟩ := os_1 h
      obtain ⟨b3, h4, h⟩ := os_b h
      refine go_getR 1 hC h2 rfl rfl h4 (C := RX5) (T := TX5) (N := 28) rfl inlX5 (by decide) m_76 (Or.inl rfl) dX5_begins_34 ?_
      refine go_iload_n hC dX5_begins_37 rfl 1 rfl ?_
      refine go_iconst hC dX5_begins_38 (v := (0 : Int32)) (by decide +kernel) ?_
      obtain ⟨h5, h⟩ := os_1 h
      refine go_iast hC h5.1 h5.2 dX5_begins_39 ?_
      refine go_iinc (q := 1) (v := (v2 + 1)) (lv' := [(2, .int (v2 + 1)), (0, .ref v0)]) hC dX5_begins_40 rfl rfl (by decide) rfl ?_
      refine go_goto (t := 27) hC dX5_begins_43 (by decide) ?_
      refine go_sub (lv' := [(0, .ref v0), (2, .int (v2 + 1))]) [1, 0] rfl ?_
      exact ih _ _ _ h
def fX5_begins (x9 : Cx) (k9 : Nat) (v0 : Nat) (v1 : Int32) (M : Mm) : Option (Unit × Mm) :=
  if mK M v0 = 6 then if mK (sV M v0 0 v1) v0 = 6 then if mK (sV (sV M v0 0 v1) v0 4 (0 : Int32)) v0 = 6 then if mK (sV (sV (sV M v0 0 v1) v0 4 (0 : Int32)) v0 5 (0 : Int32)) v0 = 6 then lt1 (sV (sV (sV (sV M v0 0 v1) v0 4 (0 : Int32)) v0 5 (0 : Int32)) v0 23 (0 : Int32)) (fun M5 => if mK M5 v0 = 6 then fX5_begins_27 x9 k9 k9 v0 (0 : Int32) (sV M5 v0 24 (0 : Int32)) else none) else none else none else none else none
set_option maxRecDepth 100000 in
set_option maxHeartbeats 4000000 in
theorem tX5_begins_0 {x9 : Cx} {K : Ct} {k9 : Nat} {M0 M9 : Mm} {r9 : Unit} (hE : Ce x9 K RX5 cX5_begins 3 none 0 0 "begins" M0) (v0 : Nat) (v1 : Int32) (M : Mm) (h : fX5_begins x9 k9 v0 v1 M = some (r9, M9)) : Go x9 K 3 (Qf x9 K M0 none M9) 0 [(0, .ref v0), (1, .int v1)] [] M := by
  have hC := hE.1
  have hnm := hE.2.2.2.2.2.2.2.1
  unfold fX5_begins at h
  refine go_aload_n hC dX5_begins_0 rfl 0 rfl ?_
  refine go_iload_n hC dX5_begins_1 rfl 1 rfl ?_
  obtain ⟨h1, h⟩ := os_1 h
  refine go_putV 0 hC h1 rfl rfl (C := RX5) (T := TX5) (N := 28) rfl inlX5 tyX5 tyX5_ok nmX5 (by decide) m_75 (Or.inl rfl) (Or.inl rfl) (tyX5_ok 0 (by decide)) rfl rfl dX5_begins_2 ?_
  refine go_aload_n hC dX5_begins_5 rfl 0 rfl ?_
  refine go_iconst hC dX5_begins_6 (v := (0 : Int32)) (by decide +kernel) ?_
  obtain ⟨h2, h⟩ := os_1 h
  refine go_putV 4 hC h2 rfl rfl (C := RX5) (T := TX5) (N := 28) rfl inlX5 tyX5 tyX5_ok nmX5 (by decide) m_102 (Or.inl rfl) (Or.inl rfl) (tyX5_ok 4 (by decide)) rfl rfl dX5_begins_7 ?_
  refine go_aload_n hC dX5_begins_10 rfl 0 rfl ?_
  refine go_iconst hC dX5_begins_11 (v := (0 : Int32)) (by decide +kernel) ?_
  obtain ⟨h3, h⟩ := os_1 h
  refine go_putV 5 hC h3 rfl rfl (C := RX5) (T := TX5) (N := 28) rfl inlX5 tyX5 tyX5_ok nmX5 (by decide) m_103 (Or.inl rfl) (Or.inl rfl) (tyX5_ok 5 (by decide)) rfl rfl dX5_begins_12 ?_
  refine go_aload_n hC dX5_begins_15 rfl 0 rfl ?_
  refine go_iconst hC dX5_begins_16 (v := (0 : Int32)) (by decide +kernel) ?_
  obtain ⟨h4, h⟩ := os_1 h
  refine go_putV 23 hC h4 rfl rfl (C := RX5) (T := TX5) (N := 28) rfl inlX5 tyX5 tyX5_ok nmX5 (by decide) m_104 (Or.inl rfl) (Or.inl rfl) (tyX5_ok 23 (by decide)) rfl rfl dX5_begins_17 ?_
  obtain ⟨M5, e6, h⟩ := os_l h
  refine go_eq (pc' := 20) (st' := []) (M' := M5) (lv' := [(0, .ref v0), (1, .int v1)]) ?_ rfl rfl rfl e6
  refine go_aload_n hC dX5_begins_20 rfl 0 rfl ?_
  refine go_iconst hC dX5_begins_21 (v := (0 : Int32)) (by decide +kernel) ?_
  obtain ⟨h7, h⟩ := os_1 h
  refine go_putV 24 hC h7 rfl rfl (C := RX5) (T := TX5) (N := 28) rfl inlX5 tyX5 tyX5_ok nmX5 (by decide) m_105 (Or.inl rfl) (Or.inl rfl) (tyX5_ok 24 (by decide)) rfl rfl dX5_begins_22 ?_
  refine go_iconst hC dX5_begins_25 (v := (0 : Int32)) (by decide +kernel) ?_
  refine go_istore_n (lv' := [(2, .int (0 : Int32)), (0, .ref v0), (1, .int v1)]) hC dX5_begins_26 rfl (by decide) rfl ?_
  refine go_sub (lv' := [(0, .ref v0), (2, .int (0 : Int32))]) [1, 0] rfl ?_
  exact tX5_begins_27 hE k9 _ _ _ h
theorem c_X5_begins (l : Launch) {x9 : Cx} {k9 : Nat} {M M9 : Mm} {r9 : Unit} {v0 : Nat} {v1 : Int32} (h : fX5_begins x9 k9 v0 v1 M = some (r9, M9)) : Fn l x9 yX5_begins cX5_begins 3 none 0 0 [.ref v0, .int v1] M none M9 :=
  Fn.of (by decide +kernel) (Nat.le_of_ble_eq_true rfl) rfl (fun K _ hE => tX5_begins_0 hE _ _ _ h)
/-! X5_isSite -/
def fX5_isSite_17 (x9 : Cx) (k9 : Nat) (s0 : Int32) (M : Mm) : Option (Int32 × Mm) :=
  if s0 = 0 ∨ s0 = 1 then some (s0, M) else none
set_option maxRecDepth 100000 in
set_option maxHeartbeats 4000000 in
theorem tX5_isSite_17 {x9 : Cx} {K : Ct} {k9 : Nat} {M0 M9 : Mm} {r9 : Int32} (hE : Ce x9 K RX5 cX5_isSite 2 (some .boolean) 0 0 "isSite" M0) (s0 : Int32) (M : Mm) (h : fX5_isSite_17 x9 k9 s0 M = some (r9, M9)) : Go x9 K 2 (Qf x9 K M0 (some (.int r9)) M9) 17 [] [.int s0] M := by
  have hC := hE.1
  have hnm := hE.2.2.2.2.2.2.2.1
  unfold fX5_isSite_17 at h
  obtain ⟨h1, h⟩ := os_1 h
  cases h
  exact go_zret hE h1 dX5_isSite_17
def fX5_isSite_16 (x9 : Cx) (k9 : Nat) (M : Mm) : Option (Int32 × Mm) :=
  fX5_isSite_17 x9 k9 (0 : Int32) M
set_option maxRecDepth 100000 in
set_option maxHeartbeats 4000000 in
theorem tX5_isSite_16 {x9 : Cx} {K : Ct} {k9 : Nat} {M0 M9 : Mm} {r9 : Int32} (hE : Ce x9 K RX5 cX5_isSite 2 (some .boolean) 0 0 "isSite" M0) (M : Mm) (h : fX5_isSite_16 x9 k9 M = some (r9, M9)) : Go x9 K 2 (Qf x9 K M0 (some (.int r9)) M9) 16 [] [] M := by
  have hC := hE.1
  have hnm := hE.2.2.2.2.2.2.2.1
  unfold fX5_isSite_16 at h
  refine go_iconst hC dX5_isSite_16 (v := (0 : Int32)) (by decide +kernel) ?_
  exact tX5_isSite_17 hE _ _ h
def fX5_isSite (x9 : Cx) (k9 : Nat) (v0 : Nat) (v1 : Int32) (M : Mm) : Option (Int32 × Mm) :=
  if v1 < 0 then fX5_isSite_16 x9 k9 M else if mK M v0 = 6 then if (mV M v0 0) ≤ v1 then fX5_isSite_16 x9 k9 M else fX5_isSite_17 x9 k9 (1 : Int32) M else none
set_option maxRecDepth 100000 in
set_option maxHeartbeats 4000000 in
theorem tX5_isSite_0 {x9 : Cx} {K : Ct} {k9 : Nat} {M0 M9 : Mm} {r9 : Int32} (hE : Ce x9 K RX5 cX5_isSite 2 (some .boolean) 0 0 "isSite" M0) (v0 : Nat) (v1 : Int32) (M : Mm) (h : fX5_isSite x9 k9 v0 v1 M = some (r9, M9)) : Go x9 K 2 (Qf x9 K M0 (some (.int r9)) M9) 0 [(0, .ref v0), (1, .int v1)] [] M := by
  have hC := hE.1
  have hnm := hE.2.2.2.2.2.2.2.1
  unfold fX5_isSite at h
  refine go_iload_n hC dX5_isSite_0 rfl 1 rfl ?_
  refine go_if_lt (t := 16) hC dX5_isSite_1 (by decide) (fun c1 => ?_) (fun c1 => ?_)
  · have h := os_t h c1
    refine go_sub (lv' := []) [] rfl ?_
    exact tX5_isSite_16 hE _ h
  · have h := os_f h c1
    refine go_iload_n hC dX5_isSite_4 rfl 1 rfl ?_
    refine go_aload_n hC dX5_isSite_5 rfl 0 rfl ?_
    obtain ⟨h2, h⟩ := os_1 h
    refine go_getV 0 hC h2 rfl rfl (C := RX5) (T := TX5) (N := 28) rfl inlX5 (by decide) m_75 (Or.inl rfl) dX5_isSite_6 ?_
    refine go_icmp_ge (t := 16) hC dX5_isSite_9 (by decide) (fun c3 => ?_) (fun c3 => ?_)
    · have h := os_t h c3
      refine go_sub (lv' := []) [] rfl ?_
      exact tX5_isSite_16 hE _ h
    · have h := os_f h c3
      refine go_iconst hC dX5_isSite_12 (v := (1 : Int32)) (by decide +kernel) ?_
      refine go_goto (t := 17) hC dX5_isSite_13 (by decide) ?_
      refine go_sub (lv' := []) [] rfl ?_
      exact tX5_isSite_17 hE _ _ h
theorem c_X5_isSite (l : Launch) {x9 : Cx} {k9 : Nat} {M M9 : Mm} {r9 : Int32} {v0 : Nat} {v1 : Int32} (h : fX5_isSite x9 k9 v0 v1 M = some (r9, M9)) : Fn l x9 yX5_isSite cX5_isSite 2 (some .boolean) 0 0 [.ref v0, .int v1] M (some (.int r9)) M9 :=
  Fn.of (by decide +kernel) (Nat.le_of_ble_eq_true rfl) rfl (fun K _ hE => tX5_isSite_0 hE _ _ _ h)
/-! X5_isOne -/
def fX5_isOne_17 (x9 : Cx) (k9 : Nat) (s0 : Int32) (M : Mm) : Option (Int32 × Mm) :=
  if s0 = 0 ∨ s0 = 1 then some (s0, M) else none
set_option maxRecDepth 100000 in
set_option maxHeartbeats 4000000 in
theorem tX5_isOne_17 {x9 : Cx} {K : Ct} {k9 : Nat} {M0 M9 : Mm} {r9 : Int32} (hE : Ce x9 K RX5 cX5_isOne 2 (some .boolean) 0 0 "isOne" M0) (s0 : Int32) (M : Mm) (h : fX5_isOne_17 x9 k9 s0 M = some (r9, M9)) : Go x9 K 2 (Qf x9 K M0 (some (.int r9)) M9) 17 [] [.int s0] M := by
  have hC := hE.1
  have hnm := hE.2.2.2.2.2.2.2.1
  unfold fX5_isOne_17 at h
  obtain ⟨h1, h⟩ := os_1 h
  cases h
  exact go_zret hE h1 dX5_isOne_17
def fX5_isOne_16 (x9 : Cx) (k9 : Nat) (M : Mm) : Option (Int32 × Mm) :=
  fX5_isOne_17 x9 k9 (0 : Int32) M
set_option maxRecDepth 100000 in
set_option maxHeartbeats 4000000 in
theorem tX5_isOne_16 {x9 : Cx} {K : Ct} {k9 : Nat} {M0 M9 : Mm} {r9 : Int32} (hE : Ce x9 K RX5 cX5_isOne 2 (some .boolean) 0 0 "isOne" M0) (M : Mm) (h : fX5_isOne_16 x9 k9 M = some (r9, M9)) : Go x9 K 2 (Qf x9 K M0 (some (.int r9)) M9) 16 [] [] M := by
  have hC := hE.1
  have hnm := hE.2.2.2.2.2.2.2.1
  unfold fX5_isOne_16 at h
  refine go_iconst hC dX5_isOne_16 (v := (0 : Int32)) (by decide +kernel) ?_
  exact tX5_isOne_17 hE _ _ h
def fX5_isOne (x9 : Cx) (k9 : Nat) (v0 : Nat) (v1 : Int32) (M : Mm) : Option (Int32 × Mm) :=
  if v1 < 0 then fX5_isOne_16 x9 k9 M else if mK M v0 = 6 then if (mV M v0 5) ≤ v1 then fX5_isOne_16 x9 k9 M else fX5_isOne_17 x9 k9 (1 : Int32) M else none
set_option maxRecDepth 100000 in
set_option maxHeartbeats 4000000 in
theorem tX5_isOne_0 {x9 : Cx} {K : Ct} {k9 : Nat} {M0 M9 : Mm} {r9 : Int32} (hE : Ce x9 K RX5 cX5_isOne 2 (some .boolean) 0 0 "isOne" M0) (v0 : Nat) (v1 : Int32) (M : Mm) (h : fX5_isOne x9 k9 v0 v1 M = some (r9, M9)) : Go x9 K 2 (Qf x9 K M0 (some (.int r9)) M9) 0 [(0, .ref v0), (1, .int v1)] [] M := by
  have hC := hE.1
  have hnm := hE.2.2.2.2.2.2.2.1
  unfold fX5_isOne at h
  refine go_iload_n hC dX5_isOne_0 rfl 1 rfl ?_
  refine go_if_lt (t := 16) hC dX5_isOne_1 (by decide) (fun c1 => ?_) (fun c1 => ?_)
  · have h := os_t h c1
    refine go_sub (lv' := []) [] rfl ?_
    exact tX5_isOne_16 hE _ h
  · have h := os_f h c1
    refine go_iload_n hC dX5_isOne_4 rfl 1 rfl ?_
    refine go_aload_n hC dX5_isOne_5 rfl 0 rfl ?_
    obtain ⟨h2, h⟩ := os_1 h
    refine go_getV 5 hC h2 rfl rfl (C := RX5) (T := TX5) (N := 28) rfl inlX5 (by decide) m_103 (Or.inl rfl) dX5_isOne_6 ?_
    refine go_icmp_ge (t := 16) hC dX5_isOne_9 (by decide) (fun c3 => ?_) (fun c3 => ?_)
    · have h := os_t h c3
      refine go_sub (lv' := []) [] rfl ?_
      exact tX5_isOne_16 hE _ h
    · have h := os_f h c3
      refine go_iconst hC dX5_isOne_12 (v := (1 : Int32)) (by decide +kernel) ?_
      refine go_goto (t := 17) hC dX5_isOne_13 (by decide) ?_
      refine go_sub (lv' := []) [] rfl ?_
      exact tX5_isOne_17 hE _ _ h
theorem c_X5_isOne (l : Launch) {x9 : Cx} {k9 : Nat} {M M9 : Mm} {r9 : Int32} {v0 : Nat} {v1 : Int32} (h : fX5_isOne x9 k9 v0 v1 M = some (r9, M9)) : Fn l x9 yX5_isOne cX5_isOne 2 (some .boolean) 0 0 [.ref v0, .int v1] M (some (.int r9)) M9 :=
  Fn.of (by decide +kernel) (Nat.le_of_ble_eq_true rfl) rfl (fun K _ hE => tX5_isOne_0 hE _ _ _ h)
/-! X5_isObject -/
def fX5_isObject_15 (x9 : Cx) (k9 : Nat) (s0 : Int32) (M : Mm) : Option (Int32 × Mm) :=
  if s0 = 0 ∨ s0 = 1 then some (s0, M) else none
set_option maxRecDepth 100000 in
set_option maxHeartbeats 4000000 in
theorem tX5_isObject_15 {x9 : Cx} {K : Ct} {k9 : Nat} {M0 M9 : Mm} {r9 : Int32} (hE : Ce x9 K RX5 cX5_isObject 1 (some .boolean) 0 0 "isObject" M0) (s0 : Int32) (M : Mm) (h : fX5_isObject_15 x9 k9 s0 M = some (r9, M9)) : Go x9 K 1 (Qf x9 K M0 (some (.int r9)) M9) 15 [] [.int s0] M := by
  have hC := hE.1
  have hnm := hE.2.2.2.2.2.2.2.1
  unfold fX5_isObject_15 at h
  obtain ⟨h1, h⟩ := os_1 h
  cases h
  exact go_zret hE h1 dX5_isObject_15
def fX5_isObject_14 (x9 : Cx) (k9 : Nat) (M : Mm) : Option (Int32 × Mm) :=
  fX5_isObject_15 x9 k9 (0 : Int32) M
set_option maxRecDepth 100000 in
set_option maxHeartbeats 4000000 in
theorem tX5_isObject_14 {x9 : Cx} {K : Ct} {k9 : Nat} {M0 M9 : Mm} {r9 : Int32} (hE : Ce x9 K RX5 cX5_isObject 1 (some .boolean) 0 0 "isObject" M0) (M : Mm) (h : fX5_isObject_14 x9 k9 M = some (r9, M9)) : Go x9 K 1 (Qf x9 K M0 (some (.int r9)) M9) 14 [] [] M := by
  have hC := hE.1
  have hnm := hE.2.2.2.2.2.2.2.1
  unfold fX5_isObject_14 at h
  refine go_iconst hC dX5_isObject_14 (v := (0 : Int32)) (by decide +kernel) ?_
  exact tX5_isObject_15 hE _ _ h
def fX5_isObject (x9 : Cx) (k9 : Nat) (v0 : Int32) (M : Mm) : Option (Int32 × Mm) :=
  if v0 < 0 then fX5_isObject_14 x9 k9 M else if (20 : Int32) ≤ v0 then fX5_isObject_14 x9 k9 M else fX5_isObject_15 x9 k9 (1 : Int32) M
set_option maxRecDepth 100000 in
set_option maxHeartbeats 4000000 in
theorem tX5_isObject_0 {x9 : Cx} {K : Ct} {k9 : Nat} {M0 M9 : Mm} {r9 : Int32} (hE : Ce x9 K RX5 cX5_isObject 1 (some .boolean) 0 0 "isObject" M0) (v0 : Int32) (M : Mm) (h : fX5_isObject x9 k9 v0 M = some (r9, M9)) : Go x9 K 1 (Qf x9 K M0 (some (.int r9)) M9) 0 [(0, .int v0)] [] M := by
  have hC := hE.1
  have hnm := hE.2.2.2.2.2.2.2.1
  unfold fX5_isObject at h
  refine go_iload_n hC dX5_isObject_0 rfl 0 rfl ?_
  refine go_if_lt (t := 14) hC dX5_isObject_1 (by decide) (fun c1 => ?_) (fun c1 => ?_)
  · have h := os_t h c1
    refine go_sub (lv' := []) [] rfl ?_
    exact tX5_isObject_14 hE _ h
  · have h := os_f h c1
    refine go_iload_n hC dX5_isObject_4 rfl 0 rfl ?_
    refine go_bipush hC dX5_isObject_5 (v := (20 : Int32)) (by decide +kernel) ?_
    refine go_icmp_ge (t := 14) hC dX5_isObject_7 (by decide) (fun c2 => ?_) (fun c2 => ?_)
    · have h := os_t h c2
      refine go_sub (lv' := []) [] rfl ?_
      exact tX5_isObject_14 hE _ h
    · have h := os_f h c2
      refine go_iconst hC dX5_isObject_10 (v := (1 : Int32)) (by decide +kernel) ?_
      refine go_goto (t := 15) hC dX5_isObject_11 (by decide) ?_
      refine go_sub (lv' := []) [] rfl ?_
      exact tX5_isObject_15 hE _ _ h
theorem c_X5_isObject (l : Launch) {x9 : Cx} {k9 : Nat} {M M9 : Mm} {r9 : Int32} {v0 : Int32} (h : fX5_isObject x9 k9 v0 M = some (r9, M9)) : Fn l x9 yX5_isObject cX5_isObject 1 (some .boolean) 0 0 [.int v0] M (some (.int r9)) M9 :=
  Fn.of (by decide +kernel) (Nat.le_of_ble_eq_true rfl) rfl (fun K _ hE => tX5_isObject_0 hE _ _ h)
/-! X5_open -/
def fX5_open_16 (x9 : Cx) (k9 : Nat) (v0 : Nat) (v1 : Int32) (s0 : Nat) (s1 : Int32) (M : Mm) : Option (Unit × Mm) :=
  if mK M s0 = 6 then ob2 (fX5_fails x9 k9 s0 s1 (1 : Int32) M) (fun r1 M2 => if r1 = 0 then if mK M2 v0 = 6 then ob2 (fX5_begins x9 k9 v0 v1 M2) (fun r6 M7 => some ((), M7)) else none else some ((), M2)) else none
set_option maxRecDepth 100000 in
set_option maxHeartbeats 4000000 in
theorem tX5_open_16 {x9 : Cx} {K : Ct} {k9 : Nat} {M0 M9 : Mm} {r9 : Unit} (hE : Ce x9 K RX5 cX5_open 2 none 1 22 "open" M0) (v0 : Nat) (v1 : Int32) (s0 : Nat) (s1 : Int32) (M : Mm) (h : fX5_open_16 x9 k9 v0 v1 s0 s1 M = some (r9, M9)) : Go x9 K 2 (Qf x9 K M0 none M9) 16 [(0, .ref v0), (1, .int v1)] [.int s1, .ref s0] M := by
  have hC := hE.1
  have hnm := hE.2.2.2.2.2.2.2.1
  unfold fX5_open_16 at h
  refine go_iconst hC dX5_open_16 (v := (1 : Int32)) (by decide +kernel) ?_
  obtain ⟨h4, h⟩ := os_1 h
  obtain ⟨r1, M2, h3, h⟩ := os_c h
  refine go_callV (bytes := cX5_fails) (maxL := 3) (ret := (some .boolean)) (n := 2) (As := [.int s1, .int (1 : Int32)]) (st := []) hE (c_X5_fails K.2.1 h3) (by unfold okY; decide +kernel) rfl h4 rfl (C := RX5) (T := TX5) (N := 28) rfl m_127 m_124 m_125 m_126 m_5 rfl (by simp [Value.category]) (by decide) (by decide) dX5_open_17 ?_
  refine go_eq (pc' := 20) (st' := [.int r1]) (M' := M2) (lv' := [(0, .ref v0), (1, .int v1)]) ?_ rfl rfl rfl rfl
  refine go_if_eq (t := 24) hC dX5_open_20 (by decide) (fun c5 => ?_) (fun c5 => ?_)
  · have h := os_t h c5
    refine go_aload_n hC dX5_open_24 rfl 0 rfl ?_
    refine go_iload_n hC dX5_open_25 rfl 1 rfl ?_
    obtain ⟨h9, h⟩ := os_1 h
    obtain ⟨r6, M7, h8, h⟩ := os_c h
    refine go_callV (bytes := cX5_begins) (maxL := 3) (ret := none) (n := 1) (As := [.int v1]) (st := []) hE (c_X5_begins K.2.1 h8) (by unfold okY; decide +kernel) rfl h9 rfl (C := RX5) (T := TX5) (N := 28) rfl m_101 m_98 m_99 m_100 m_5 rfl (by simp [Value.category]) (by decide) (by decide) dX5_open_26 ?_
    refine go_eq (pc' := 29) (st' := []) (M' := M7) (lv' := [(0, .ref v0), (1, .int v1)]) ?_ rfl rfl rfl rfl
    cases h
    exact go_vret hE dX5_open_29
  · have h := os_f h c5
    cases h
    exact go_vret hE dX5_open_23
def fX5_open_11 (x9 : Cx) (k9 : Nat) (v0 : Nat) (v1 : Int32) (s0 : Nat) (M : Mm) : Option (Unit × Mm) :=
  fX5_open_16 x9 k9 v0 v1 s0 (1 : Int32) M
set_option maxRecDepth 100000 in
set_option maxHeartbeats 4000000 in
theorem tX5_open_11 {x9 : Cx} {K : Ct} {k9 : Nat} {M0 M9 : Mm} {r9 : Unit} (hE : Ce x9 K RX5 cX5_open 2 none 1 22 "open" M0) (v0 : Nat) (v1 : Int32) (s0 : Nat) (M : Mm) (h : fX5_open_11 x9 k9 v0 v1 s0 M = some (r9, M9)) : Go x9 K 2 (Qf x9 K M0 none M9) 11 [(0, .ref v0), (1, .int v1)] [.ref s0] M := by
  have hC := hE.1
  have hnm := hE.2.2.2.2.2.2.2.1
  unfold fX5_open_11 at h
  refine go_iconst hC dX5_open_11 (v := (1 : Int32)) (by decide +kernel) ?_
  refine go_goto (t := 16) hC dX5_open_12 (by decide) ?_
  exact tX5_open_16 hE _ _ _ _ _ h
def fX5_open (x9 : Cx) (k9 : Nat) (v0 : Nat) (v1 : Int32) (M : Mm) : Option (Unit × Mm) :=
  if v1 < (2 : Int32) then fX5_open_11 x9 k9 v0 v1 v0 M else if v1 ≤ (5 : Int32) then fX5_open_16 x9 k9 v0 v1 v0 (0 : Int32) M else fX5_open_11 x9 k9 v0 v1 v0 M
set_option maxRecDepth 100000 in
set_option maxHeartbeats 4000000 in
theorem tX5_open_0 {x9 : Cx} {K : Ct} {k9 : Nat} {M0 M9 : Mm} {r9 : Unit} (hE : Ce x9 K RX5 cX5_open 2 none 1 22 "open" M0) (v0 : Nat) (v1 : Int32) (M : Mm) (h : fX5_open x9 k9 v0 v1 M = some (r9, M9)) : Go x9 K 2 (Qf x9 K M0 none M9) 0 [(0, .ref v0), (1, .int v1)] [] M := by
  have hC := hE.1
  have hnm := hE.2.2.2.2.2.2.2.1
  unfold fX5_open at h
  refine go_aload_n hC dX5_open_0 rfl 0 rfl ?_
  refine go_iload_n hC dX5_open_1 rfl 1 rfl ?_
  refine go_iconst hC dX5_open_2 (v := (2 : Int32)) (by decide +kernel) ?_
  refine go_icmp_lt (t := 11) hC dX5_open_3 (by decide) (fun c1 => ?_) (fun c1 => ?_)
  · have h := os_t h c1
    exact tX5_open_11 hE _ _ _ _ h
  · have h := os_f h c1
    refine go_iload_n hC dX5_open_6 rfl 1 rfl ?_
    refine go_iconst hC dX5_open_7 (v := (5 : Int32)) (by decide +kernel) ?_
    refine go_icmp_le (t := 15) hC dX5_open_8 (by decide) (fun c2 => ?_) (fun c2 => ?_)
    · have h := os_t h c2
      refine go_iconst hC dX5_open_15 (v := (0 : Int32)) (by decide +kernel) ?_
      exact tX5_open_16 hE _ _ _ _ _ h
    · have h := os_f h c2
      exact tX5_open_11 hE _ _ _ _ h
theorem c_X5_open (l : Launch) {x9 : Cx} {k9 : Nat} {M M9 : Mm} {r9 : Unit} {v0 : Nat} {v1 : Int32} (h : fX5_open x9 k9 v0 v1 M = some (r9, M9)) : Fn l x9 yX5_open cX5_open 2 none 1 22 [.ref v0, .int v1] M none M9 :=
  Fn.of (by decide +kernel) (Nat.le_of_ble_eq_true rfl) rfl (fun K _ hE => tX5_open_0 hE _ _ _ h)
/-! X5_begin -/
def fX5_begin_53 (x9 : Cx) (k9 : Nat) (M : Mm) : Option (Int32 × Mm) :=
  some ((0 : Int32), M)
set_option maxRecDepth 100000 in
set_option maxHeartbeats 4000000 in
theorem tX5_begin_53 {x9 : Cx} {K : Ct} {k9 : Nat} {M0 M9 : Mm} {r9 : Int32} (hE : Ce x9 K RX5 cX5_begin 4 (some .int) 1 22 "begin" M0) (M : Mm) (h : fX5_begin_53 x9 k9 M = some (r9, M9)) : Go x9 K 4 (Qf x9 K M0 (some (.int r9)) M9) 53 [] [] M := by
  have hC := hE.1
  have hnm := hE.2.2.2.2.2.2.2.1
  unfold fX5_begin_53 at h
  refine go_iconst hC dX5_begin_53 (v := (0 : Int32)) (by decide +kernel) ?_
  cases h
  exact go_iret hE dX5_begin_54
def fX5_begin_202 (x9 : Cx) (k9 : Nat) : Nat → Nat → Int32 → Int32 → Mm → Option (Int32 × Mm)
  | 0, _, _, _, _ => none
  | n9 + 1, v0, v2, v3, M => if (20 : Int32) ≤ v3 then some (v2, M) else if mK M v0 = 6 then ob1 (mP M v0 15) (fun b3 => if mK M b3 = 9 ∧ ¬ ((((20 : Int32) * v2) + v3) < 0 ∨ mN M b3 ≤ ((((20 : Int32) * v2) + v3)).toNatClampNeg) then lt1 (sV M b3 ((((20 : Int32) * v2) + v3)).toNatClampNeg (vp_nar .boolean (0 : Int32))) (fun M6 => fX5_begin_202 x9 k9 n9 v0 v2 (v3 + 1) M6) else none) else none
set_option maxRecDepth 100000 in
set_option maxHeartbeats 4000000 in
theorem tX5_begin_202 {x9 : Cx} {K : Ct} {k9 : Nat} {M0 M9 : Mm} {r9 : Int32} (hE : Ce x9 K RX5 cX5_begin 4 (some .int) 1 22 "begin" M0) : ∀ (n9 : Nat) (v0 : Nat) (v2 : Int32) (v3 : Int32) (M : Mm), fX5_begin_202 x9 k9 n9 v0 v2 v3 M = some (r9, M9) → Go x9 K 4 (Qf x9 K M0 (some (.int r9)) M9) 202 [(0, .ref v0), (2, .int v2), (3, .int v3)] [] M := by
  have hC := hE.1
  have hnm := hE.2.2.2.2.2.2.2.1
  intro n9
  induction n9 with
  | zero => intro _ _ _ _ h; cases h
  | succ n9 ih =>
    intro v0 v2 v3 M h
    rw [fX5_begin_202] at h
    refine go_iload_n hC dX5_begin_202 rfl 2 rfl ?_
    refine go_bipush hC dX5_begin_203 (v := (20 : Int32)) (by decide +kernel) ?_
    refine go_icmp_ge (t := 226) hC dX5_begin_205 (by decide) (fun c1 => ?_) (fun c1 => ?_)
    · have h := os_t h c1
      refine go_iload_n hC dX5_begin_226 rfl 1 rfl ?_
      cases h
      exact go_iret hE dX5_begin_227
    · have h := os_f h c1
      refine go_aload_n hC dX5_begin_208 rfl 0 rfl ?_
      obtain ⟨h2, h⟩ := os_1 h
      obtain ⟨b3, h4, h⟩ := os_b h
      refine go_getR 15 hC h2 rfl rfl h4 (C := RX5) (T := TX5) (N := 28) rfl inlX5 (by decide) m_89 (Or.inl rfl) dX5_begin_209 ?_
      refine go_bipush hC dX5_begin_212 (v := (20 : Int32)) (by decide +kernel) ?_
      refine go_iload_n hC dX5_begin_214 rfl 1 rfl ?_
      refine go_imul hC dX5_begin_215 ?_
      refine go_iload_n hC dX5_begin_216 rfl 2 rfl ?_
      refine go_iadd hC dX5_begin_217 ?_
      refine go_iconst hC dX5_begin_218 (v := (0 : Int32)) (by decide +kernel) ?_
      obtain ⟨h5, h⟩ := os_1 h
      refine go_zast hC h5.1 h5.2 dX5_begin_219 ?_
      obtain ⟨M6, e7, h⟩ := os_l h
      refine go_eq (pc' := 220) (st' := []) (M' := M6) (lv' := [(0, .ref v0), (2, .int v2), (3, .int v3)]) ?_ rfl rfl rfl e7
      refine go_iinc (q := 2) (v := (v3 + 1)) (lv' := [(3, .int (v3 + 1)), (0, .ref v0), (2, .int v2)]) hC dX5_begin_220 rfl rfl (by decide) rfl ?_
      refine go_goto (t := 202) hC dX5_begin_223 (by decide) ?_
      refine go_sub (lv' := [(0, .ref v0), (2, .int v2), (3, .int (v3 + 1))]) [1, 2, 0] rfl ?_
      exact ih _ _ _ _ h
def fX5_begin_114 (x9 : Cx) (k9 : Nat) : Nat → Nat → Int32 → Int32 → Int32 → Mm → Option (Int32 × Mm)
  | 0, _, _, _, _, _ => none
  | n9 + 1, v0, v1, v2, v3, M => if (5 : Int32) ≤ v3 then fX5_begin_202 x9 k9 k9 v0 v2 (0 : Int32) M else if mK M v0 = 6 then ob1 (mP M v0 9) (fun b3 => if mK M v0 = 6 then ob1 (mP M v0 1) (fun b6 => if mK M b6 = 8 ∧ ¬ ((((5 : Int32) * v1) + v3) < 0 ∨ mN M b6 ≤ ((((5 : Int32) * v1) + v3)).toNatClampNeg) then if mK M b3 = 8 ∧ ¬ ((((5 : Int32) * v2) + v3) < 0 ∨ mN M b3 ≤ ((((5 : Int32) * v2) + v3)).toNatClampNeg) then lt1 (sV M b3 ((((5 : Int32) * v2) + v3)).toNatClampNeg (mV M b6 ((((5 : Int32) * v1) + v3)).toNatClampNeg)) (fun M10 => if mK M10 v0 = 6 then ob1 (mP M10 v0 10) (fun b13 => if mK M10 b13 = 8 ∧ ¬ ((((5 : Int32) * v2) + v3) < 0 ∨ mN M10 b13 ≤ ((((5 : Int32) * v2) + v3)).toNatClampNeg) then if mK (sV M10 b13 ((((5 : Int32) * v2) + v3)).toNatClampNeg (0 : Int32)) v0 = 6 then ob1 (mP (sV M10 b13 ((((5 : Int32) * v2) + v3)).toNatClampNeg (0 : Int32)) v0 11) (fun b17 => if mK (sV M10 b13 ((((5 : Int32) * v2) + v3)).toNatClampNeg (0 : Int32)) b17 = 9 ∧ ¬ ((((5 : Int32) * v2) + v3) < 0 ∨ mN (sV M10 b13 ((((5 : Int32) * v2) + v3)).toNatClampNeg (0 : Int32)) b17 ≤ ((((5 : Int32) * v2) + v3)).toNatClampNeg) then lt1 (sV (sV M10 b13 ((((5 : Int32) * v2) + v3)).toNatClampNeg (0 : Int32)) b17 ((((5 : Int32) * v2) + v3)).toNatClampNeg (vp_nar .boolean (0 : Int32))) (fun M20 => if mK M20 v0 = 6 then ob1 (mP M20 v0 12) (fun b23 => if mK M20 b23 = 9 ∧ ¬ ((((5 : Int32) * v2) + v3) < 0 ∨ mN M20 b23 ≤ ((((5 : Int32) * v2) + v3)).toNatClampNeg) then lt1 (sV M20 b23 ((((5 : Int32) * v2) + v3)).toNatClampNeg (vp_nar .boolean (0 : Int32))) (fun M26 => if mK M26 v0 = 6 then ob1 (mP M26 v0 13) (fun b29 => if mK M26 b29 = 9 ∧ ¬ ((((5 : Int32) * v2) + v3) < 0 ∨ mN M26 b29 ≤ ((((5 : Int32) * v2) + v3)).toNatClampNeg) then lt1 (sV M26 b29 ((((5 : Int32) * v2) + v3)).toNatClampNeg (vp_nar .boolean (0 : Int32))) (fun M32 => if mK M32 v0 = 6 then ob1 (mP M32 v0 14) (fun b35 => if mK M32 b35 = 9 ∧ ¬ ((((5 : Int32) * v2) + v3) < 0 ∨ mN M32 b35 ≤ ((((5 : Int32) * v2) + v3)).toNatClampNeg) then lt1 (sV M32 b35 ((((5 : Int32) * v2) + v3)).toNatClampNeg (vp_nar .boolean (0 : Int32))) (fun M38 => fX5_begin_114 x9 k9 n9 v0 v1 v2 (v3 + 1) M38) else none) else none) else none) else none) else none) else none) else none) else none else none) else none) else none else none) else none) else none
set_option maxRecDepth 100000 in
set_option maxHeartbeats 4000000 in
theorem tX5_begin_114 {x9 : Cx} {K : Ct} {k9 : Nat} {M0 M9 : Mm} {r9 : Int32} (hE : Ce x9 K RX5 cX5_begin 4 (some .int) 1 22 "begin" M0) : ∀ (n9 : Nat) (v0 : Nat) (v1 : Int32) (v2 : Int32) (v3 : Int32) (M : Mm), fX5_begin_114 x9 k9 n9 v0 v1 v2 v3 M = some (r9, M9) → Go x9 K 4 (Qf x9 K M0 (some (.int r9)) M9) 114 [(0, .ref v0), (1, .int v1), (2, .int v2), (3, .int v3)] [] M := by
  have hC := hE.1
  have hnm := hE.2.2.2.2.2.2.2.1
  intro n9
  induction n9 with
  | zero => intro _ _ _ _ _ h; cases h
  | succ n9 ih =>
    intro v0 v1 v2 v3 M h
    rw [fX5_begin_114] at h
    refine go_iload_n hC dX5_begin_114 rfl 3 rfl ?_
    refine go_iconst hC dX5_begin_115 (v := (5 : Int32)) (by decide +kernel) ?_
    refine go_icmp_ge (t := 200) hC dX5_begin_116 (by decide) (fun c1 => ?_) (fun c1 => ?_)
    · have h := os_t h c1
      refine go_iconst hC dX5_begin_200 (v := (0 : Int32)) (by decide +kernel) ?_
      refine go_istore_n (lv' := [(3, .int (0 : Int32)), (0, .ref v0), (1, .int v1), (2, .int v2)]) hC dX5_begin_201 rfl (by decide) rfl ?_
      refine go_sub (lv' := [(0, .ref v0), (2, .int v2), (3, .int (0 : Int32))]) [1, 3, 0] rfl ?_
      exact tX5_begin_202 hE k9 _ _ _ _ h
    · have h := os_f h c1
      refine go_aload_n hC dX5_begin_119 rfl 0 rfl ?_
      obtain ⟨h2, h⟩ := os_1 h
      obtain ⟨b3, h4, h⟩ := os_b h
      refine go_getR 9 hC h2 rfl rfl h4 (C := RX5) (T := TX5) (N := 28) rfl inlX5 (by decide) m_83 (Or.inl rfl) dX5_begin_120 ?_
      refine go_iconst hC dX5_begin_123 (v := (5 : Int32)) (by decide +kernel) ?_
      refine go_iload_n hC dX5_begin_124 rfl 2 rfl ?_
      refine go_imul hC dX5_begin_125 ?_
      refine go_iload_n hC dX5_begin_126 rfl 3 rfl ?_
      refine go_iadd hC dX5_begin_127 ?_
      refine go_aload_n hC dX5_begin_128 rfl 0 rfl ?_
      obtain ⟨h5, h⟩ := os_1 h
      obtain ⟨b6, h7, h⟩ := os_b h
      refine go_getR 1 hC h5 rfl rfl h7 (C := RX5) (T := TX5) (N := 28) rfl inlX5 (by decide) m_76 (Or.inl rfl) dX5_begin_129 ?_
      refine go_iconst hC dX5_begin_132 (v := (5 : Int32)) (by decide +kernel) ?_
      refine go_iload_n hC dX5_begin_133 rfl 1 rfl ?_
      refine go_imul hC dX5_begin_134 ?_
      refine go_iload_n hC dX5_begin_135 rfl 3 rfl ?_
      refine go_iadd hC dX5_begin_136 ?_
      obtain ⟨h8, h⟩ := os_1 h
      refine go_iald hC h8.1 h8.2 dX5_begin_137 ?_
      obtain ⟨h9, h⟩ := os_1 h
      refine go_iast hC h9.1 h9.2 dX5_begin_138 ?_
      obtain ⟨M10, e11, h⟩ := os_l h
      refine go_eq (pc' := 139) (st' := []) (M' := M10) (lv' := [(0, .ref v0), (1, .int v1), (2, .int v2), (3, .int v3)]) ?_ rfl rfl rfl e11
      refine go_aload_n hC dX5_begin_139 rfl 0 rfl ?_
      obtain ⟨h12, h⟩ := os_1 h
      obtain ⟨b13, h14, h⟩ := os_b h
      refine go_getR 10 hC h12 rfl rfl h14 (C := RX5) (T := TX5) (N := 28) rfl inlX5 (by decide) m_84 (Or.inl rfl) dX5_begin_140 ?_
      refine go_iconst hC dX5_begin_143 (v := (5 : Int32)) (by decide +kernel) ?_
      refine go_iload_n hC dX5_begin_144 rfl 2 rfl ?_
      refine go_imul hC dX5_begin_145 ?_
      refine go_iload_n hC dX5_begin_146 rfl 3 rfl ?_
      refine go_iadd hC dX5_begin_147 ?_
      refine go_iconst hC dX5_begin_148 (v := (0 : Int32)) (by decide +kernel) ?_
      obtain ⟨h15, h⟩ := os_1 h
      refine go_iast hC h15.1 h15.2 dX5_begin_149 ?_
      refine go_aload_n hC dX5_begin_150 rfl 0 rfl ?_
      obtain ⟨h16, h⟩ := os_1 h
      obtain ⟨b17, h18, h⟩ := os_b h
      refine go_getR 11 hC h16 rfl rfl h18 (C := RX5) (T := TX5) (N := 28) rfl inlX5 (by decide) m_85 (Or.inl rfl) dX5_begin_151 ?_
      refine go_iconst hC dX5_begin_154 (v := (5 : Int32)) (by decide +kernel) ?_
      refine go_iload_n hC dX5_begin_155 rfl 2 rfl ?_
      refine go_imul hC dX5_begin_156 ?_
      refine go_iload_n hC dX5_begin_157 rfl 3 rfl ?_
      refine go_iadd hC dX5_begin_158 ?_
      refine go_iconst hC dX5_begin_159 (v := (0 : Int32)) (by decide +kernel) ?_
      obtain ⟨h19, h⟩ := os_1 h
      refine go_zast hC h19.1 h19.2 dX5_begin_160 ?_
      obtain ⟨M20, e21, h⟩ := os_l h
      refine go_eq (pc' := 161) (st' := []) (M' := M20) (lv' := [(0, .ref v0), (1, .int v1), (2, .int v2), (3, .int v3)]) ?_ rfl rfl rfl e21
      refine go_aload_n hC dX5_begin_161 rfl 0 rfl ?_
      obtain ⟨h22, h⟩ := os_1 h
      obtain ⟨b23, h24, h⟩ := os_b h
      refine go_getR 12 hC h22 rfl rfl h24 (C := RX5) (T := TX5) (N := 28) rfl inlX5 (by decide) m_86 (Or.inl rfl) dX5_begin_162 ?_
      refine go_iconst hC dX5_begin_165 (v := (5 : Int32)) (by decide +kernel) ?_
      refine go_iload_n hC dX5_begin_166 rfl 2 rfl ?_
      refine go_imul hC dX5_begin_167 ?_
      refine go_iload_n hC dX5_begin_168 rfl 3 rfl ?_
      refine go_iadd hC dX5_begin_169 ?_
      refine go_iconst hC dX5_begin_170 (v := (0 : Int32)) (by decide +kernel) ?_
      obtain ⟨h25, h⟩ := os_1 h
      refine go_zast hC h25.1 h25.2 dX5_begin_171 ?_
      obtain ⟨M26, e27, h⟩ := os_l h
      refine go_eq (pc' := 172) (st' := []) (M' := M26) (lv' := [(0, .ref v0), (1, .int v1), (2, .int v2), (3, .int v3)]) ?_ rfl rfl rfl e27
      refine go_aload_n hC dX5_begin_172 rfl 0 rfl ?_
      obtain ⟨h28, h⟩ := os_1 h
      obtain ⟨b29, h30, h⟩ := os_b h
      refine go_getR 13 hC h28 rfl rfl h30 (C := RX5) (T := TX5) (N := 28) rfl inlX5 (by decide) m_87 (Or.inl rfl) dX5_begin_173 ?_
      refine go_iconst hC dX5_begin_176 (v := (5 : Int32)) (by decide +kernel) ?_
      refine go_iload_n hC dX5_begin_177 rfl 2 rfl ?_
      refine go_imul hC dX5_begin_178 ?_
      refine go_iload_n hC dX5_begin_179 rfl 3 rfl ?_
      refine go_iadd hC dX5_begin_180 ?_
      refine go_iconst hC dX5_begin_181 (v := (0 : Int32)) (by decide +kernel) ?_
      obtain ⟨h31, h⟩ := os_1 h
      refine go_zast hC h31.1 h31.2 dX5_begin_182 ?_
      obtain ⟨M32, e33, h⟩ := os_l h
      refine go_eq (pc' := 183) (st' := []) (M' := M32) (lv' := [(0, .ref v0), (1, .int v1), (2, .int v2), (3, .int v3)]) ?_ rfl rfl rfl e33
      refine go_aload_n hC dX5_begin_183 rfl 0 rfl ?_
      obtain ⟨h34, h⟩ := os_1 h
      obtain ⟨b35, h36, h⟩ := os_b h
      refine go_getR 14 hC h34 rfl rfl h36 (C := RX5) (T := TX5) (N := 28) rfl inlX5 (by decide) m_88 (Or.inl rfl) dX5_begin_184 ?_
      refine go_iconst hC dX5_begin_187 (v := (5 : Int32)) (by decide +kernel) ?_
      refine go_iload_n hC dX5_begin_188 rfl 2 rfl ?_
      refine go_imul hC dX5_begin_189 ?_
      refine go_iload_n hC dX5_begin_190 rfl 3 rfl ?_
      refine go_iadd hC dX5_begin_191 ?_
      refine go_iconst hC dX5_begin_192 (v := (0 : Int32)) (by decide +kernel) ?_
      obtain ⟨h37, h⟩ := os_1 h
      refine go_zast hC h37.1 h37.2 dX5_begin_193 ?_
      obtain ⟨M38, e39, h⟩ := os_l h
      refine go_eq (pc' := 194) (st' := []) (M' := M38) (lv' := [(0, .ref v0), (1, .int v1), (2, .int v2), (3, .int v3)]) ?_ rfl rfl rfl e39
      refine go_iinc (q := 3) (v := (v3 + 1)) (lv' := [(3, .int (v3 + 1)), (0, .ref v0), (1, .int v1), (2, .int v2)]) hC dX5_begin_194 rfl rfl (by decide) rfl ?_
      refine go_goto (t := 114) hC dX5_begin_197 (by decide) ?_
      refine go_sub (lv' := [(0, .ref v0), (1, .int v1), (2, .int v2), (3, .int (v3 + 1))]) [1, 2, 3, 0] rfl ?_
      exact ih _ _ _ _ _ h
def fX5_begin_46 (x9 : Cx) (k9 : Nat) (v0 : Nat) (v1 : Int32) (s0 : Nat) (s1 : Int32) (M : Mm) : Option (Int32 × Mm) :=
  if mK M s0 = 6 then ob2 (fX5_fails x9 k9 s0 s1 (2 : Int32) M) (fun r1 M2 => if r1 = 0 then if mK M2 v0 = 6 then if mK M2 v0 = 6 then if mK M2 v0 = 6 then if mK (sV M2 v0 5 ((mV M2 v0 5) + (1 : Int32))) v0 = 6 then ob1 (mP (sV M2 v0 5 ((mV M2 v0 5) + (1 : Int32))) v0 6) (fun b10 => if mK (sV M2 v0 5 ((mV M2 v0 5) + (1 : Int32))) b10 = 8 ∧ ¬ ((mV M2 v0 5) < 0 ∨ mN (sV M2 v0 5 ((mV M2 v0 5) + (1 : Int32))) b10 ≤ ((mV M2 v0 5)).toNatClampNeg) then lt1 (sV (sV M2 v0 5 ((mV M2 v0 5) + (1 : Int32))) b10 ((mV M2 v0 5)).toNatClampNeg v1) (fun M13 => if mK M13 v0 = 6 then ob1 (mP M13 v0 7) (fun b16 => if mK M13 b16 = 8 ∧ ¬ ((mV M2 v0 5) < 0 ∨ mN M13 b16 ≤ ((mV M2 v0 5)).toNatClampNeg) then if mK (sV M13 b16 ((mV M2 v0 5)).toNatClampNeg (0 : Int32)) v0 = 6 then ob1 (mP (sV M13 b16 ((mV M2 v0 5)).toNatClampNeg (0 : Int32)) v0 8) (fun b20 => if mK (sV M13 b16 ((mV M2 v0 5)).toNatClampNeg (0 : Int32)) b20 = 8 ∧ ¬ ((mV M2 v0 5) < 0 ∨ mN (sV M13 b16 ((mV M2 v0 5)).toNatClampNeg (0 : Int32)) b20 ≤ ((mV M2 v0 5)).toNatClampNeg) then lt1 (sV (sV M13 b16 ((mV M2 v0 5)).toNatClampNeg (0 : Int32)) b20 ((mV M2 v0 5)).toNatClampNeg (0 : Int32)) (fun M23 => if mK M23 v0 = 6 then ob1 (mP M23 v0 19) (fun b26 => if mK M23 b26 = 8 ∧ ¬ ((mV M2 v0 5) < 0 ∨ mN M23 b26 ≤ ((mV M2 v0 5)).toNatClampNeg) then if mK (sV M23 b26 ((mV M2 v0 5)).toNatClampNeg (0 : Int32)) v0 = 6 then ob1 (mP (sV M23 b26 ((mV M2 v0 5)).toNatClampNeg (0 : Int32)) v0 20) (fun b30 => if mK (sV M23 b26 ((mV M2 v0 5)).toNatClampNeg (0 : Int32)) b30 = 9 ∧ ¬ ((mV M2 v0 5) < 0 ∨ mN (sV M23 b26 ((mV M2 v0 5)).toNatClampNeg (0 : Int32)) b30 ≤ ((mV M2 v0 5)).toNatClampNeg) then lt1 (sV (sV M23 b26 ((mV M2 v0 5)).toNatClampNeg (0 : Int32)) b30 ((mV M2 v0 5)).toNatClampNeg (vp_nar .boolean (0 : Int32))) (fun M33 => if mK M33 v0 = 6 then ob1 (mP M33 v0 21) (fun b36 => if mK M33 b36 = 9 ∧ ¬ ((mV M2 v0 5) < 0 ∨ mN M33 b36 ≤ ((mV M2 v0 5)).toNatClampNeg) then lt1 (sV M33 b36 ((mV M2 v0 5)).toNatClampNeg (vp_nar .boolean (0 : Int32))) (fun M39 => fX5_begin_114 x9 k9 k9 v0 v1 (mV M2 v0 5) (0 : Int32) M39) else none) else none) else none) else none else none) else none) else none) else none else none) else none) else none) else none else none else none else none else fX5_begin_53 x9 k9 M2) else none
set_option maxRecDepth 100000 in
set_option maxHeartbeats 4000000 in
theorem tX5_begin_46 {x9 : Cx} {K : Ct} {k9 : Nat} {M0 M9 : Mm} {r9 : Int32} (hE : Ce x9 K RX5 cX5_begin 4 (some .int) 1 22 "begin" M0) (v0 : Nat) (v1 : Int32) (s0 : Nat) (s1 : Int32) (M : Mm) (h : fX5_begin_46 x9 k9 v0 v1 s0 s1 M = some (r9, M9)) : Go x9 K 4 (Qf x9 K M0 (some (.int r9)) M9) 46 [(0, .ref v0), (1, .int v1)] [.int s1, .ref s0] M := by
  have hC := hE.1
  have hnm := hE.2.2.2.2.2.2.2.1
  unfold fX5_begin_46 at h
  refine go_iconst hC dX5_begin_46 (v := (2 : Int32)) (by decide +kernel) ?_
  obtain ⟨h4, h⟩ := os_1 h
  obtain ⟨r1, M2, h3, h⟩ := os_c h
  refine go_callV (bytes := cX5_fails) (maxL := 3) (ret := (some .boolean)) (n := 2) (As := [.int s1, .int (2 : Int32)]) (st := []) hE (c_X5_fails K.2.1 h3) (by unfold okY; decide +kernel) rfl h4 rfl (C := RX5) (T := TX5) (N := 28) rfl m_127 m_124 m_125 m_126 m_5 rfl (by simp [Value.category]) (by decide) (by decide) dX5_begin_47 ?_
  refine go_eq (pc' := 50) (st' := [.int r1]) (M' := M2) (lv' := [(0, .ref v0), (1, .int v1)]) ?_ rfl rfl rfl rfl
  refine go_if_eq (t := 55) hC dX5_begin_50 (by decide) (fun c5 => ?_) (fun c5 => ?_)
  · have h := os_t h c5
    refine go_aload_n hC dX5_begin_55 rfl 0 rfl ?_
    obtain ⟨h6, h⟩ := os_1 h
    refine go_getV 5 hC h6 rfl rfl (C := RX5) (T := TX5) (N := 28) rfl inlX5 (by decide) m_103 (Or.inl rfl) dX5_begin_56 ?_
    refine go_istore_n (lv' := [(2, .int (mV M2 v0 5)), (0, .ref v0), (1, .int v1)]) hC dX5_begin_59 rfl (by decide) rfl ?_
    refine go_aload_n hC dX5_begin_60 rfl 1 rfl ?_
    refine go_dup hC dX5_begin_61 rfl ?_
    obtain ⟨h7, h⟩ := os_1 h
    refine go_getV 5 hC h7 rfl rfl (C := RX5) (T := TX5) (N := 28) rfl inlX5 (by decide) m_103 (Or.inl rfl) dX5_begin_62 ?_
    refine go_iconst hC dX5_begin_65 (v := (1 : Int32)) (by decide +kernel) ?_
    refine go_iadd hC dX5_begin_66 ?_
    obtain ⟨h8, h⟩ := os_1 h
    refine go_putV 5 hC h8 rfl rfl (C := RX5) (T := TX5) (N := 28) rfl inlX5 tyX5 tyX5_ok nmX5 (by decide) m_103 (Or.inl rfl) (Or.inl rfl) (tyX5_ok 5 (by decide)) rfl rfl dX5_begin_67 ?_
    refine go_aload_n hC dX5_begin_70 rfl 1 rfl ?_
    obtain ⟨h9, h⟩ := os_1 h
    obtain ⟨b10, h11, h⟩ := os_b h
    refine go_getR 6 hC h9 rfl rfl h11 (C := RX5) (T := TX5) (N := 28) rfl inlX5 (by decide) m_80 (Or.inl rfl) dX5_begin_71 ?_
    refine go_iload_n hC dX5_begin_74 rfl 0 rfl ?_
    refine go_iload_n hC dX5_begin_75 rfl 2 rfl ?_
    obtain ⟨h12, h⟩ := os_1 h
    refine go_iast hC h12.1 h12.2 dX5_begin_76 ?_
    obtain ⟨M13, e14, h⟩ := os_l h
    refine go_eq (pc' := 77) (st' := []) (M' := M13) (lv' := [(2, .int (mV M2 v0 5)), (0, .ref v0), (1, .int v1)]) ?_ rfl rfl rfl e14
    refine go_aload_n hC dX5_begin_77 rfl 1 rfl ?_
    obtain ⟨h15, h⟩ := os_1 h
    obtain ⟨b16, h17, h⟩ := os_b h
    refine go_getR 7 hC h15 rfl rfl h17 (C := RX5) (T := TX5) (N := 28) rfl inlX5 (by decide) m_81 (Or.inl rfl) dX5_begin_78 ?_
    refine go_iload_n hC dX5_begin_81 rfl 0 rfl ?_
    refine go_iconst hC dX5_begin_82 (v := (0 : Int32)) (by decide +kernel) ?_
    obtain ⟨h18, h⟩ := os_1 h
    refine go_iast hC h18.1 h18.2 dX5_begin_83 ?_
    refine go_aload_n hC dX5_begin_84 rfl 1 rfl ?_
    obtain ⟨h19, h⟩ := os_1 h
    obtain ⟨b20, h21, h⟩ := os_b h
    refine go_getR 8 hC h19 rfl rfl h21 (C := RX5) (T := TX5) (N := 28) rfl inlX5 (by decide) m_82 (Or.inl rfl) dX5_begin_85 ?_
    refine go_iload_n hC dX5_begin_88 rfl 0 rfl ?_
    refine go_iconst hC dX5_begin_89 (v := (0 : Int32)) (by decide +kernel) ?_
    obtain ⟨h22, h⟩ := os_1 h
    refine go_iast hC h22.1 h22.2 dX5_begin_90 ?_
    obtain ⟨M23, e24, h⟩ := os_l h
    refine go_eq (pc' := 91) (st' := []) (M' := M23) (lv' := [(2, .int (mV M2 v0 5)), (0, .ref v0), (1, .int v1)]) ?_ rfl rfl rfl e24
    refine go_aload_n hC dX5_begin_91 rfl 1 rfl ?_
    obtain ⟨h25, h⟩ := os_1 h
    obtain ⟨b26, h27, h⟩ := os_b h
    refine go_getR 19 hC h25 rfl rfl h27 (C := RX5) (T := TX5) (N := 28) rfl inlX5 (by decide) m_93 (Or.inl rfl) dX5_begin_92 ?_
    refine go_iload_n hC dX5_begin_95 rfl 0 rfl ?_
    refine go_iconst hC dX5_begin_96 (v := (0 : Int32)) (by decide +kernel) ?_
    obtain ⟨h28, h⟩ := os_1 h
    refine go_iast hC h28.1 h28.2 dX5_begin_97 ?_
    refine go_aload_n hC dX5_begin_98 rfl 1 rfl ?_
    obtain ⟨h29, h⟩ := os_1 h
    obtain ⟨b30, h31, h⟩ := os_b h
    refine go_getR 20 hC h29 rfl rfl h31 (C := RX5) (T := TX5) (N := 28) rfl inlX5 (by decide) m_94 (Or.inl rfl) dX5_begin_99 ?_
    refine go_iload_n hC dX5_begin_102 rfl 0 rfl ?_
    refine go_iconst hC dX5_begin_103 (v := (0 : Int32)) (by decide +kernel) ?_
    obtain ⟨h32, h⟩ := os_1 h
    refine go_zast hC h32.1 h32.2 dX5_begin_104 ?_
    obtain ⟨M33, e34, h⟩ := os_l h
    refine go_eq (pc' := 105) (st' := []) (M' := M33) (lv' := [(2, .int (mV M2 v0 5)), (0, .ref v0), (1, .int v1)]) ?_ rfl rfl rfl e34
    refine go_aload_n hC dX5_begin_105 rfl 1 rfl ?_
    obtain ⟨h35, h⟩ := os_1 h
    obtain ⟨b36, h37, h⟩ := os_b h
    refine go_getR 21 hC h35 rfl rfl h37 (C := RX5) (T := TX5) (N := 28) rfl inlX5 (by decide) m_95 (Or.inl rfl) dX5_begin_106 ?_
    refine go_iload_n hC dX5_begin_109 rfl 0 rfl ?_
    refine go_iconst hC dX5_begin_110 (v := (0 : Int32)) (by decide +kernel) ?_
    obtain ⟨h38, h⟩ := os_1 h
    refine go_zast hC h38.1 h38.2 dX5_begin_111 ?_
    obtain ⟨M39, e40, h⟩ := os_l h
    refine go_eq (pc' := 112) (st' := []) (M' := M39) (lv' := [(2, .int (mV M2 v0 5)), (0, .ref v0), (1, .int v1)]) ?_ rfl rfl rfl e40
    refine go_iconst hC dX5_begin_112 (v := (0 : Int32)) (by decide +kernel) ?_
    refine go_istore_n (lv' := [(3, .int (0 : Int32)), (2, .int (mV M2 v0 5)), (0, .ref v0), (1, .int v1)]) hC dX5_begin_113 rfl (by decide) rfl ?_
    refine go_sub (lv' := [(0, .ref v0), (1, .int v1), (2, .int (mV M2 v0 5)), (3, .int (0 : Int32))]) [2, 3, 1, 0] rfl ?_
    exact tX5_begin_114 hE k9 _ _ _ _ _ h
  · have h := os_f h c5
    refine go_sub (lv' := []) [] rfl ?_
    exact tX5_begin_53 hE _ h
def fX5_begin_41 (x9 : Cx) (k9 : Nat) (v0 : Nat) (v1 : Int32) (s0 : Nat) (M : Mm) : Option (Int32 × Mm) :=
  fX5_begin_46 x9 k9 v0 v1 s0 (1 : Int32) M
set_option maxRecDepth 100000 in
set_option maxHeartbeats 4000000 in
theorem tX5_begin_41 {x9 : Cx} {K : Ct} {k9 : Nat} {M0 M9 : Mm} {r9 : Int32} (hE : Ce x9 K RX5 cX5_begin 4 (some .int) 1 22 "begin" M0) (v0 : Nat) (v1 : Int32) (s0 : Nat) (M : Mm) (h : fX5_begin_41 x9 k9 v0 v1 s0 M = some (r9, M9)) : Go x9 K 4 (Qf x9 K M0 (some (.int r9)) M9) 41 [(0, .ref v0), (1, .int v1)] [.ref s0] M := by
  have hC := hE.1
  have hnm := hE.2.2.2.2.2.2.2.1
  unfold fX5_begin_41 at h
  refine go_iconst hC dX5_begin_41 (v := (1 : Int32)) (by decide +kernel) ?_
  refine go_goto (t := 46) hC dX5_begin_42 (by decide) ?_
  exact tX5_begin_46 hE _ _ _ _ _ h
def fX5_begin_14 (x9 : Cx) (k9 : Nat) (v0 : Nat) (v1 : Int32) (s0 : Nat) (s1 : Int32) (M : Mm) : Option (Int32 × Mm) :=
  if mK M s0 = 6 then ob2 (fX5_fails x9 k9 s0 s1 (1 : Int32) M) (fun r1 M2 => if r1 = 0 then if mK M2 v0 = 6 then ob1 (mP M2 v0 2) (fun b7 => if mK M2 b7 = 9 ∧ ¬ (v1 < 0 ∨ mN M2 b7 ≤ (v1).toNatClampNeg) then if (mV M2 b7 (v1).toNatClampNeg) = 0 then if mK M2 v0 = 6 then if (mV M2 v0 5) = (200 : Int32) then fX5_begin_41 x9 k9 v0 v1 v0 M2 else fX5_begin_46 x9 k9 v0 v1 v0 (0 : Int32) M2 else none else fX5_begin_41 x9 k9 v0 v1 v0 M2 else none) else none else fX5_begin_53 x9 k9 M2) else none
set_option maxRecDepth 100000 in
set_option maxHeartbeats 4000000 in
theorem tX5_begin_14 {x9 : Cx} {K : Ct} {k9 : Nat} {M0 M9 : Mm} {r9 : Int32} (hE : Ce x9 K RX5 cX5_begin 4 (some .int) 1 22 "begin" M0) (v0 : Nat) (v1 : Int32) (s0 : Nat) (s1 : Int32) (M : Mm) (h : fX5_begin_14 x9 k9 v0 v1 s0 s1 M = some (r9, M9)) : Go x9 K 4 (Qf x9 K M0 (some (.int r9)) M9) 14 [(0, .ref v0), (1, .int v1)] [.int s1, .ref s0] M := by
  have hC := hE.1
  have hnm := hE.2.2.2.2.2.2.2.1
  unfold fX5_begin_14 at h
  refine go_iconst hC dX5_begin_14 (v := (1 : Int32)) (by decide +kernel) ?_
  obtain ⟨h4, h⟩ := os_1 h
  obtain ⟨r1, M2, h3, h⟩ := os_c h
  refine go_callV (bytes := cX5_fails) (maxL := 3) (ret := (some .boolean)) (n := 2) (As := [.int s1, .int (1 : Int32)]) (st := []) hE (c_X5_fails K.2.1 h3) (by unfold okY; decide +kernel) rfl h4 rfl (C := RX5) (T := TX5) (N := 28) rfl m_127 m_124 m_125 m_126 m_5 rfl (by simp [Value.category]) (by decide) (by decide) dX5_begin_15 ?_
  refine go_eq (pc' := 18) (st' := [.int r1]) (M' := M2) (lv' := [(0, .ref v0), (1, .int v1)]) ?_ rfl rfl rfl rfl
  refine go_if_ne (t := 53) hC dX5_begin_18 (by decide) (fun c5 => ?_) (fun c5 => ?_)
  · have h := os_f h c5
    refine go_sub (lv' := []) [] rfl ?_
    exact tX5_begin_53 hE _ h
  · have h := os_t h c5
    refine go_aload_n hC dX5_begin_21 rfl 0 rfl ?_
    refine go_aload_n hC dX5_begin_22 rfl 0 rfl ?_
    obtain ⟨h6, h⟩ := os_1 h
    obtain ⟨b7, h8, h⟩ := os_b h
    refine go_getR 2 hC h6 rfl rfl h8 (C := RX5) (T := TX5) (N := 28) rfl inlX5 (by decide) m_78 (Or.inl rfl) dX5_begin_23 ?_
    refine go_iload_n hC dX5_begin_26 rfl 1 rfl ?_
    obtain ⟨h9, h⟩ := os_1 h
    refine go_zald hC h9.1 h9.2 dX5_begin_27 ?_
    refine go_if_ne (t := 41) hC dX5_begin_28 (by decide) (fun c10 => ?_) (fun c10 => ?_)
    · have h := os_f h c10
      exact tX5_begin_41 hE _ _ _ _ h
    · have h := os_t h c10
      refine go_aload_n hC dX5_begin_31 rfl 0 rfl ?_
      obtain ⟨h11, h⟩ := os_1 h
      refine go_getV 5 hC h11 rfl rfl (C := RX5) (T := TX5) (N := 28) rfl inlX5 (by decide) m_103 (Or.inl rfl) dX5_begin_32 ?_
      refine go_sipush hC dX5_begin_35 (v := (200 : Int32)) (by decide +kernel) ?_
      refine go_icmp_ne (t := 45) hC dX5_begin_38 (by decide) (fun c12 => ?_) (fun c12 => ?_)
      · have h := os_f h c12
        refine go_iconst hC dX5_begin_45 (v := (0 : Int32)) (by decide +kernel) ?_
        exact tX5_begin_46 hE _ _ _ _ _ h
      · have h := os_t h c12
        exact tX5_begin_41 hE _ _ _ _ h
def fX5_begin (x9 : Cx) (k9 : Nat) (v0 : Nat) (v1 : Int32) (M : Mm) : Option (Int32 × Mm) :=
  if mK M v0 = 6 then ob2 (fX5_isSite x9 k9 v0 v1 M) (fun r1 M2 => if r1 = 0 then fX5_begin_14 x9 k9 v0 v1 v0 (1 : Int32) M2 else fX5_begin_14 x9 k9 v0 v1 v0 (0 : Int32) M2) else none
set_option maxRecDepth 100000 in
set_option maxHeartbeats 4000000 in
theorem tX5_begin_0 {x9 : Cx} {K : Ct} {k9 : Nat} {M0 M9 : Mm} {r9 : Int32} (hE : Ce x9 K RX5 cX5_begin 4 (some .int) 1 22 "begin" M0) (v0 : Nat) (v1 : Int32) (M : Mm) (h : fX5_begin x9 k9 v0 v1 M = some (r9, M9)) : Go x9 K 4 (Qf x9 K M0 (some (.int r9)) M9) 0 [(0, .ref v0), (1, .int v1)] [] M := by
  have hC := hE.1
  have hnm := hE.2.2.2.2.2.2.2.1
  unfold fX5_begin at h
  refine go_aload_n hC dX5_begin_0 rfl 0 rfl ?_
  refine go_aload_n hC dX5_begin_1 rfl 0 rfl ?_
  refine go_iload_n hC dX5_begin_2 rfl 1 rfl ?_
  obtain ⟨h4, h⟩ := os_1 h
  obtain ⟨r1, M2, h3, h⟩ := os_c h
  refine go_callV (bytes := cX5_isSite) (maxL := 2) (ret := (some .boolean)) (n := 1) (As := [.int v1]) (st := [.ref v0]) hE (c_X5_isSite K.2.1 h3) (by unfold okY; decide +kernel) rfl h4 rfl (C := RX5) (T := TX5) (N := 28) rfl m_256 m_253 m_254 m_255 m_5 rfl (by simp [Value.category]) (by decide) (by decide) dX5_begin_3 ?_
  refine go_eq (pc' := 6) (st' := [.int r1, .ref v0]) (M' := M2) (lv' := [(0, .ref v0), (1, .int v1)]) ?_ rfl rfl rfl rfl
  refine go_if_ne (t := 13) hC dX5_begin_6 (by decide) (fun c5 => ?_) (fun c5 => ?_)
  · have h := os_f h c5
    refine go_iconst hC dX5_begin_13 (v := (0 : Int32)) (by decide +kernel) ?_
    exact tX5_begin_14 hE _ _ _ _ _ h
  · have h := os_t h c5
    refine go_iconst hC dX5_begin_9 (v := (1 : Int32)) (by decide +kernel) ?_
    refine go_goto (t := 14) hC dX5_begin_10 (by decide) ?_
    exact tX5_begin_14 hE _ _ _ _ _ h
theorem c_X5_begin (l : Launch) {x9 : Cx} {k9 : Nat} {M M9 : Mm} {r9 : Int32} {v0 : Nat} {v1 : Int32} (h : fX5_begin x9 k9 v0 v1 M = some (r9, M9)) : Fn l x9 yX5_begin cX5_begin 4 (some .int) 1 22 [.ref v0, .int v1] M (some (.int r9)) M9 :=
  Fn.of (by decide +kernel) (Nat.le_of_ble_eq_true rfl) rfl (fun K _ hE => tX5_begin_0 hE _ _ _ h)
/-! X5_sees -/
def fX5_sees_39 (x9 : Cx) (k9 : Nat) (s0 : Int32) (M : Mm) : Option (Int32 × Mm) :=
  if s0 = 0 ∨ s0 = 1 then some (s0, M) else none
set_option maxRecDepth 100000 in
set_option maxHeartbeats 4000000 in
theorem tX5_sees_39 {x9 : Cx} {K : Ct} {k9 : Nat} {M0 M9 : Mm} {r9 : Int32} (hE : Ce x9 K RX5 cX5_sees 3 (some .boolean) 0 0 "sees" M0) (s0 : Int32) (M : Mm) (h : fX5_sees_39 x9 k9 s0 M = some (r9, M9)) : Go x9 K 3 (Qf x9 K M0 (some (.int r9)) M9) 39 [] [.int s0] M := by
  have hC := hE.1
  have hnm := hE.2.2.2.2.2.2.2.1
  unfold fX5_sees_39 at h
  obtain ⟨h1, h⟩ := os_1 h
  cases h
  exact go_zret hE h1 dX5_sees_39
def fX5_sees_38 (x9 : Cx) (k9 : Nat) (M : Mm) : Option (Int32 × Mm) :=
  fX5_sees_39 x9 k9 (0 : Int32) M
set_option maxRecDepth 100000 in
set_option maxHeartbeats 4000000 in
theorem tX5_sees_38 {x9 : Cx} {K : Ct} {k9 : Nat} {M0 M9 : Mm} {r9 : Int32} (hE : Ce x9 K RX5 cX5_sees 3 (some .boolean) 0 0 "sees" M0) (M : Mm) (h : fX5_sees_38 x9 k9 M = some (r9, M9)) : Go x9 K 3 (Qf x9 K M0 (some (.int r9)) M9) 38 [] [] M := by
  have hC := hE.1
  have hnm := hE.2.2.2.2.2.2.2.1
  unfold fX5_sees_38 at h
  refine go_iconst hC dX5_sees_38 (v := (0 : Int32)) (by decide +kernel) ?_
  exact tX5_sees_39 hE _ _ h
def fX5_sees (x9 : Cx) (k9 : Nat) (v0 : Nat) (v1 : Int32) (v2 : Int32) (M : Mm) : Option (Int32 × Mm) :=
  if mK M v0 = 6 then ob1 (mP M v0 7) (fun b2 => if mK M b2 = 8 ∧ ¬ (v2 < 0 ∨ mN M b2 ≤ (v2).toNatClampNeg) then if (mV M b2 (v2).toNatClampNeg) = (2 : Int32) then if mK M v0 = 6 then ob1 (mP M v0 8) (fun b7 => if mK M b7 = 8 ∧ ¬ (v2 < 0 ∨ mN M b7 ≤ (v2).toNatClampNeg) then if mK M v0 = 6 then ob1 (mP M v0 9) (fun b11 => if mK M v0 = 6 then ob1 (mP M v0 6) (fun b14 => if mK M b14 = 8 ∧ ¬ (v2 < 0 ∨ mN M b14 ≤ (v2).toNatClampNeg) then if mK M b11 = 8 ∧ ¬ ((((5 : Int32) * v1) + (mV M b14 (v2).toNatClampNeg)) < 0 ∨ mN M b11 ≤ ((((5 : Int32) * v1) + (mV M b14 (v2).toNatClampNeg))).toNatClampNeg) then if (mV M b11 ((((5 : Int32) * v1) + (mV M b14 (v2).toNatClampNeg))).toNatClampNeg) < (mV M b7 (v2).toNatClampNeg) then fX5_sees_38 x9 k9 M else fX5_sees_39 x9 k9 (1 : Int32) M else none else none) else none) else none else none) else none else fX5_sees_38 x9 k9 M else none) else none
set_option maxRecDepth 100000 in
set_option maxHeartbeats 4000000 in
theorem tX5_sees_0 {x9 : Cx} {K : Ct} {k9 : Nat} {M0 M9 : Mm} {r9 : Int32} (hE : Ce x9 K RX5 cX5_sees 3 (some .boolean) 0 0 "sees" M0) (v0 : Nat) (v1 : Int32) (v2 : Int32) (M : Mm) (h : fX5_sees x9 k9 v0 v1 v2 M = some (r9, M9)) : Go x9 K 3 (Qf x9 K M0 (some (.int r9)) M9) 0 [(0, .ref v0), (1, .int v1), (2, .int v2)] [] M := by
  have hC := hE.1
  have hnm := hE.2.2.2.2.2.2.2.1
  unfold fX5_sees at h
  refine go_aload_n hC dX5_sees_0 rfl 0 rfl ?_
  obtain ⟨h1, h⟩ := os_1 h
  obtain ⟨b2, h3, h⟩ := os_b h
  refine go_getR 7 hC h1 rfl rfl h3 (C := RX5) (T := TX5) (N := 28) rfl inlX5 (by decide) m_81 (Or.inl rfl) dX5_sees_1 ?_
  refine go_iload_n hC dX5_sees_4 rfl 2 rfl ?_
  obtain ⟨h4, h⟩ := os_1 h
  refine go_iald hC h4.1 h4.2 dX5_sees_5 ?_
  refine go_iconst hC dX5_sees_6 (v := (2 : Int32)) (by decide +kernel) ?_
  refine go_icmp_ne (t := 38) hC dX5_sees_7 (by decide) (fun c5 => ?_) (fun c5 => ?_)
  · have h := os_f h c5
    refine go_sub (lv' := []) [] rfl ?_
    exact tX5_sees_38 hE _ h
  · have h := os_t h c5
    refine go_aload_n hC dX5_sees_10 rfl 0 rfl ?_
    obtain ⟨h6, h⟩ := os_1 h
    obtain ⟨b7, h8, h⟩ := os_b h
    refine go_getR 8 hC h6 rfl rfl h8 (C := RX5) (T := TX5) (N := 28) rfl inlX5 (by decide) m_82 (Or.inl rfl) dX5_sees_11 ?_
    refine go_iload_n hC dX5_sees_14 rfl 2 rfl ?_
    obtain ⟨h9, h⟩ := os_1 h
    refine go_iald hC h9.1 h9.2 dX5_sees_15 ?_
    refine go_aload_n hC dX5_sees_16 rfl 0 rfl ?_
    obtain ⟨h10, h⟩ := os_1 h
    obtain ⟨b11, h12, h⟩ := os_b h
    refine go_getR 9 hC h10 rfl rfl h12 (C := RX5) (T := TX5) (N := 28) rfl inlX5 (by decide) m_83 (Or.inl rfl) dX5_sees_17 ?_
    refine go_iconst hC dX5_sees_20 (v := (5 : Int32)) (by decide +kernel) ?_
    refine go_iload_n hC dX5_sees_21 rfl 1 rfl ?_
    refine go_imul hC dX5_sees_22 ?_
    refine go_aload_n hC dX5_sees_23 rfl 0 rfl ?_
    obtain ⟨h13, h⟩ := os_1 h
    obtain ⟨b14, h15, h⟩ := os_b h
    refine go_getR 6 hC h13 rfl rfl h15 (C := RX5) (T := TX5) (N := 28) rfl inlX5 (by decide) m_80 (Or.inl rfl) dX5_sees_24 ?_
    refine go_iload_n hC dX5_sees_27 rfl 2 rfl ?_
    obtain ⟨h16, h⟩ := os_1 h
    refine go_iald hC h16.1 h16.2 dX5_sees_28 ?_
    refine go_iadd hC dX5_sees_29 ?_
    obtain ⟨h17, h⟩ := os_1 h
    refine go_iald hC h17.1 h17.2 dX5_sees_30 ?_
    refine go_icmp_gt (t := 38) hC dX5_sees_31 (by decide) (fun c18 => ?_) (fun c18 => ?_)
    · have h := os_t h c18
      refine go_sub (lv' := []) [] rfl ?_
      exact tX5_sees_38 hE _ h
    · have h := os_f h c18
      refine go_iconst hC dX5_sees_34 (v := (1 : Int32)) (by decide +kernel) ?_
      refine go_goto (t := 39) hC dX5_sees_35 (by decide) ?_
      refine go_sub (lv' := []) [] rfl ?_
      exact tX5_sees_39 hE _ _ h
theorem c_X5_sees (l : Launch) {x9 : Cx} {k9 : Nat} {M M9 : Mm} {r9 : Int32} {v0 : Nat} {v1 : Int32} {v2 : Int32} (h : fX5_sees x9 k9 v0 v1 v2 M = some (r9, M9)) : Fn l x9 yX5_sees cX5_sees 3 (some .boolean) 0 0 [.ref v0, .int v1, .int v2] M (some (.int r9)) M9 :=
  Fn.of (by decide +kernel) (Nat.le_of_ble_eq_true rfl) rfl (fun K _ hE => tX5_sees_0 hE _ _ _ _ h)
/-! X5_latest -/
def fX5_latest_103 (x9 : Cx) (k9 : Nat) (rec9 : Nat → Int32 → Int32 → Int32 → Int32 → Int32 → Int32 → Mm → Option (Int32 × Mm)) (v0 : Nat) (v1 : Int32) (v2 : Int32) (v3 : Int32) (v4 : Int32) (v5 : Int32) (v6 : Int32) (M : Mm) : Option (Int32 × Mm) :=
  rec9 v0 v1 v2 v3 v4 v5 (v6 + 1) M
set_option maxRecDepth 100000 in
set_option maxHeartbeats 4000000 in
theorem tX5_latest_103 {x9 : Cx} {K : Ct} {k9 : Nat} {M0 M9 : Mm} {r9 : Int32} (hE : Ce x9 K RX5 cX5_latest 8 (some .int) 1 22 "latest" M0) {rec9 : Nat → Int32 → Int32 → Int32 → Int32 → Int32 → Int32 → Mm → Option (Int32 × Mm)} (hrec9 : ∀ (v0 : Nat) (v1 : Int32) (v2 : Int32) (v3 : Int32) (v4 : Int32) (v5 : Int32) (v6 : Int32) (M : Mm), rec9 v0 v1 v2 v3 v4 v5 v6 M = some (r9, M9) → Go x9 K 8 (Qf x9 K M0 (some (.int r9)) M9) 9 [(0, .ref v0), (1, .int v1), (2, .int v2), (3, .int v3), (4, .int v4), (5, .int v5), (6, .int v6)] [] M) (v0 : Nat) (v1 : Int32) (v2 : Int32) (v3 : Int32) (v4 : Int32) (v5 : Int32) (v6 : Int32) (M : Mm) (h : fX5_latest_103 x9 k9 rec9 v0 v1 v2 v3 v4 v5 v6 M = some (r9, M9)) : Go x9 K 8 (Qf x9 K M0 (some (.int r9)) M9) 103 [(0, .ref v0), (1, .int v1), (2, .int v2), (3, .int v3), (4, .int v4), (5, .int v5), (6, .int v6)] [] M := by
  have hC := hE.1
  have hnm := hE.2.2.2.2.2.2.2.1
  unfold fX5_latest_103 at h
  refine go_iinc (q := 6) (v := (v6 + 1)) (lv' := [(6, .int (v6 + 1)), (0, .ref v0), (1, .int v1), (2, .int v2), (3, .int v3), (4, .int v4), (5, .int v5)]) hC dX5_latest_103 rfl rfl (by decide) rfl ?_
  refine go_goto (t := 9) hC dX5_latest_106 (by decide) ?_
  refine go_sub (lv' := [(0, .ref v0), (1, .int v1), (2, .int v2), (3, .int v3), (4, .int v4), (5, .int v5), (6, .int (v6 + 1))]) [1, 2, 3, 4, 5, 6, 0] rfl ?_
  exact hrec9 _ _ _ _ _ _ _ _ h
def fX5_latest_38 (x9 : Cx) (k9 : Nat) (rec9 : Nat → Int32 → Int32 → Int32 → Int32 → Int32 → Int32 → Mm → Option (Int32 × Mm)) (v0 : Nat) (v1 : Int32) (v2 : Int32) (v3 : Int32) (v4 : Int32) (v5 : Int32) (v6 : Int32) (s0 : Int32) (M : Mm) : Option (Int32 × Mm) :=
  if s0 = 0 then fX5_latest_103 x9 k9 rec9 v0 v1 v2 v3 v4 v5 v6 M else if mK M v0 = 6 then ob1 (mP M v0 15) (fun b3 => if mK M b3 = 9 ∧ ¬ ((((20 : Int32) * v6) + v2) < 0 ∨ mN M b3 ≤ ((((20 : Int32) * v6) + v2)).toNatClampNeg) then if (mV M b3 ((((20 : Int32) * v6) + v2)).toNatClampNeg) = 0 then fX5_latest_103 x9 k9 rec9 v0 v1 v2 v3 v4 v5 v6 M else if mK M v0 = 6 then ob1 (mP M v0 10) (fun b8 => if mK M b8 = 8 ∧ ¬ ((((5 : Int32) * v6) + v1) < 0 ∨ mN M b8 ≤ ((((5 : Int32) * v6) + v1)).toNatClampNeg) then if (mV M b8 ((((5 : Int32) * v6) + v1)).toNatClampNeg) ≤ v4 then fX5_latest_103 x9 k9 rec9 v0 v1 v2 v3 v4 v5 v6 M else if mK M v0 = 6 then ob1 (mP M v0 10) (fun b13 => if mK M b13 = 8 ∧ ¬ ((((5 : Int32) * v6) + v1) < 0 ∨ mN M b13 ≤ ((((5 : Int32) * v6) + v1)).toNatClampNeg) then if mK M v0 = 6 then ob1 (mP M v0 16) (fun b17 => if mK M b17 = 8 ∧ ¬ ((((20 : Int32) * v6) + v2) < 0 ∨ mN M b17 ≤ ((((20 : Int32) * v6) + v2)).toNatClampNeg) then fX5_latest_103 x9 k9 rec9 v0 v1 v2 v3 (mV M b13 ((((5 : Int32) * v6) + v1)).toNatClampNeg) (mV M b17 ((((20 : Int32) * v6) + v2)).toNatClampNeg) v6 M else none) else none else none) else none else none) else none else none) else none
set_option maxRecDepth 100000 in
set_option maxHeartbeats 4000000 in
theorem tX5_latest_38 {x9 : Cx} {K : Ct} {k9 : Nat} {M0 M9 : Mm} {r9 : Int32} (hE : Ce x9 K RX5 cX5_latest 8 (some .int) 1 22 "latest" M0) {rec9 : Nat → Int32 → Int32 → Int32 → Int32 → Int32 → Int32 → Mm → Option (Int32 × Mm)} (hrec9 : ∀ (v0 : Nat) (v1 : Int32) (v2 : Int32) (v3 : Int32) (v4 : Int32) (v5 : Int32) (v6 : Int32) (M : Mm), rec9 v0 v1 v2 v3 v4 v5 v6 M = some (r9, M9) → Go x9 K 8 (Qf x9 K M0 (some (.int r9)) M9) 9 [(0, .ref v0), (1, .int v1), (2, .int v2), (3, .int v3), (4, .int v4), (5, .int v5), (6, .int v6)] [] M) (v0 : Nat) (v1 : Int32) (v2 : Int32) (v3 : Int32) (v4 : Int32) (v5 : Int32) (v6 : Int32) (s0 : Int32) (M : Mm) (h : fX5_latest_38 x9 k9 rec9 v0 v1 v2 v3 v4 v5 v6 s0 M = some (r9, M9)) : Go x9 K 8 (Qf x9 K M0 (some (.int r9)) M9) 38 [(0, .ref v0), (1, .int v1), (2, .int v2), (3, .int v3), (4, .int v4), (5, .int v5), (6, .int v6)] [.int s0] M := by
  have hC := hE.1
  have hnm := hE.2.2.2.2.2.2.2.1
  unfold fX5_latest_38 at h
  refine go_istore (lv' := [(7, .int s0), (0, .ref v0), (1, .int v1), (2, .int v2), (3, .int v3), (4, .int v4), (5, .int v5), (6, .int v6)]) hC dX5_latest_38 (by decide) rfl ?_
  refine go_iload hC dX5_latest_40 0 rfl ?_
  refine go_if_eq (t := 103) hC dX5_latest_42 (by decide) (fun c1 => ?_) (fun c1 => ?_)
  · have h := os_t h c1
    refine go_sub (lv' := [(0, .ref v0), (1, .int v1), (2, .int v2), (3, .int v3), (4, .int v4), (5, .int v5), (6, .int v6)]) [1, 2, 3, 4, 5, 6, 7] rfl ?_
    exact tX5_latest_103 hE hrec9 _ _ _ _ _ _ _ _ h
  · have h := os_f h c1
    refine go_aload_n hC dX5_latest_45 rfl 1 rfl ?_
    obtain ⟨h2, h⟩ := os_1 h
    obtain ⟨b3, h4, h⟩ := os_b h
    refine go_getR 15 hC h2 rfl rfl h4 (C := RX5) (T := TX5) (N := 28) rfl inlX5 (by decide) m_89 (Or.inl rfl) dX5_latest_46 ?_
    refine go_bipush hC dX5_latest_49 (v := (20 : Int32)) (by decide +kernel) ?_
    refine go_iload hC dX5_latest_51 7 rfl ?_
    refine go_imul hC dX5_latest_53 ?_
    refine go_iload_n hC dX5_latest_54 rfl 3 rfl ?_
    refine go_iadd hC dX5_latest_55 ?_
    obtain ⟨h5, h⟩ := os_1 h
    refine go_zald hC h5.1 h5.2 dX5_latest_56 ?_
    refine go_if_eq (t := 103) hC dX5_latest_57 (by decide) (fun c6 => ?_) (fun c6 => ?_)
    · have h := os_t h c6
      refine go_sub (lv' := [(0, .ref v0), (1, .int v1), (2, .int v2), (3, .int v3), (4, .int v4), (5, .int v5), (6, .int v6)]) [1, 2, 3, 4, 5, 6, 7] rfl ?_
      exact tX5_latest_103 hE hrec9 _ _ _ _ _ _ _ _ h
    · have h := os_f h c6
      refine go_aload_n hC dX5_latest_60 rfl 1 rfl ?_
      obtain ⟨h7, h⟩ := os_1 h
      obtain ⟨b8, h9, h⟩ := os_b h
      refine go_getR 10 hC h7 rfl rfl h9 (C := RX5) (T := TX5) (N := 28) rfl inlX5 (by decide) m_84 (Or.inl rfl) dX5_latest_61 ?_
      refine go_iconst hC dX5_latest_64 (v := (5 : Int32)) (by decide +kernel) ?_
      refine go_iload hC dX5_latest_65 7 rfl ?_
      refine go_imul hC dX5_latest_67 ?_
      refine go_iload_n hC dX5_latest_68 rfl 2 rfl ?_
      refine go_iadd hC dX5_latest_69 ?_
      obtain ⟨h10, h⟩ := os_1 h
      refine go_iald hC h10.1 h10.2 dX5_latest_70 ?_
      refine go_iload hC dX5_latest_71 5 rfl ?_
      refine go_icmp_le (t := 103) hC dX5_latest_73 (by decide) (fun c11 => ?_) (fun c11 => ?_)
      · have h := os_t h c11
        refine go_sub (lv' := [(0, .ref v0), (1, .int v1), (2, .int v2), (3, .int v3), (4, .int v4), (5, .int v5), (6, .int v6)]) [1, 2, 3, 4, 5, 6, 7] rfl ?_
        exact tX5_latest_103 hE hrec9 _ _ _ _ _ _ _ _ h
      · have h := os_f h c11
        refine go_aload_n hC dX5_latest_76 rfl 1 rfl ?_
        obtain ⟨h12, h⟩ := os_1 h
        obtain ⟨b13, h14, h⟩ := os_b h
        refine go_getR 10 hC h12 rfl rfl h14 (C := RX5) (T := TX5) (N := 28) rfl inlX5 (by decide) m_84 (Or.inl rfl) dX5_latest_77 ?_
        refine go_iconst hC dX5_latest_80 (v := (5 : Int32)) (by decide +kernel) ?_
        refine go_iload hC dX5_latest_81 7 rfl ?_
        refine go_imul hC dX5_latest_83 ?_
        refine go_iload_n hC dX5_latest_84 rfl 2 rfl ?_
        refine go_iadd hC dX5_latest_85 ?_
        obtain ⟨h15, h⟩ := os_1 h
        refine go_iald hC h15.1 h15.2 dX5_latest_86 ?_
        refine go_istore (lv' := [(4, .int (mV M b13 ((((5 : Int32) * v6) + v1)).toNatClampNeg)), (7, .int s0), (0, .ref v0), (1, .int v1), (2, .int v2), (3, .int v3), (5, .int v5), (6, .int v6)]) hC dX5_latest_87 (by decide) rfl ?_
        refine go_aload_n hC dX5_latest_89 rfl 2 rfl ?_
        obtain ⟨h16, h⟩ := os_1 h
        obtain ⟨b17, h18, h⟩ := os_b h
        refine go_getR 16 hC h16 rfl rfl h18 (C := RX5) (T := TX5) (N := 28) rfl inlX5 (by decide) m_90 (Or.inl rfl) dX5_latest_90 ?_
        refine go_bipush hC dX5_latest_93 (v := (20 : Int32)) (by decide +kernel) ?_
        refine go_iload hC dX5_latest_95 7 rfl ?_
        refine go_imul hC dX5_latest_97 ?_
        refine go_iload_n hC dX5_latest_98 rfl 4 rfl ?_
        refine go_iadd hC dX5_latest_99 ?_
        obtain ⟨h19, h⟩ := os_1 h
        refine go_iald hC h19.1 h19.2 dX5_latest_100 ?_
        refine go_istore (lv' := [(5, .int (mV M b17 ((((20 : Int32) * v6) + v2)).toNatClampNeg)), (4, .int (mV M b13 ((((5 : Int32) * v6) + v1)).toNatClampNeg)), (7, .int s0), (0, .ref v0), (1, .int v1), (2, .int v2), (3, .int v3), (6, .int v6)]) hC dX5_latest_101 (by decide) rfl ?_
        refine go_sub (lv' := [(0, .ref v0), (1, .int v1), (2, .int v2), (3, .int v3), (4, .int (mV M b13 ((((5 : Int32) * v6) + v1)).toNatClampNeg)), (5, .int (mV M b17 ((((20 : Int32) * v6) + v2)).toNatClampNeg)), (6, .int v6)]) [3, 4, 5, 6, 1, 0, 7] rfl ?_
        exact tX5_latest_103 hE hrec9 _ _ _ _ _ _ _ _ h
def fX5_latest_33 (x9 : Cx) (k9 : Nat) (rec9 : Nat → Int32 → Int32 → Int32 → Int32 → Int32 → Int32 → Mm → Option (Int32 × Mm)) (v0 : Nat) (v1 : Int32) (v2 : Int32) (v3 : Int32) (v4 : Int32) (v5 : Int32) (v6 : Int32) (M : Mm) : Option (Int32 × Mm) :=
  fX5_latest_38 x9 k9 rec9 v0 v1 v2 v3 v4 v5 v6 (1 : Int32) M
set_option maxRecDepth 100000 in
set_option maxHeartbeats 4000000 in
theorem tX5_latest_33 {x9 : Cx} {K : Ct} {k9 : Nat} {M0 M9 : Mm} {r9 : Int32} (hE : Ce x9 K RX5 cX5_latest 8 (some .int) 1 22 "latest" M0) {rec9 : Nat → Int32 → Int32 → Int32 → Int32 → Int32 → Int32 → Mm → Option (Int32 × Mm)} (hrec9 : ∀ (v0 : Nat) (v1 : Int32) (v2 : Int32) (v3 : Int32) (v4 : Int32) (v5 : Int32) (v6 : Int32) (M : Mm), rec9 v0 v1 v2 v3 v4 v5 v6 M = some (r9, M9) → Go x9 K 8 (Qf x9 K M0 (some (.int r9)) M9) 9 [(0, .ref v0), (1, .int v1), (2, .int v2), (3, .int v3), (4, .int v4), (5, .int v5), (6, .int v6)] [] M) (v0 : Nat) (v1 : Int32) (v2 : Int32) (v3 : Int32) (v4 : Int32) (v5 : Int32) (v6 : Int32) (M : Mm) (h : fX5_latest_33 x9 k9 rec9 v0 v1 v2 v3 v4 v5 v6 M = some (r9, M9)) : Go x9 K 8 (Qf x9 K M0 (some (.int r9)) M9) 33 [(0, .ref v0), (1, .int v1), (2, .int v2), (3, .int v3), (4, .int v4), (5, .int v5), (6, .int v6)] [] M := by
  have hC := hE.1
  have hnm := hE.2.2.2.2.2.2.2.1
  unfold fX5_latest_33 at h
  refine go_iconst hC dX5_latest_33 (v := (1 : Int32)) (by decide +kernel) ?_
  refine go_goto (t := 38) hC dX5_latest_34 (by decide) ?_
  exact tX5_latest_38 hE hrec9 _ _ _ _ _ _ _ _ _ h
def fX5_latest_9 (x9 : Cx) (k9 : Nat) : Nat → Nat → Int32 → Int32 → Int32 → Int32 → Int32 → Int32 → Mm → Option (Int32 × Mm)
  | 0, _, _, _, _, _, _, _, _ => none
  | n9 + 1, v0, v1, v2, v3, v4, v5, v6, M => if mK M v0 = 6 then if (mV M v0 5) ≤ v6 then some (v5, M) else if v3 = (-1 : Int32) then fX5_latest_33 x9 k9 (fX5_latest_9 x9 k9 n9) v0 v1 v2 v3 v4 v5 v6 M else if mK M v0 = 6 then ob2 (fX5_sees x9 k9 v0 v3 v6 M) (fun r4 M5 => if r4 = 0 then fX5_latest_38 x9 k9 (fX5_latest_9 x9 k9 n9) v0 v1 v2 v3 v4 v5 v6 (0 : Int32) M5 else fX5_latest_33 x9 k9 (fX5_latest_9 x9 k9 n9) v0 v1 v2 v3 v4 v5 v6 M5) else none else none
set_option maxRecDepth 100000 in
set_option maxHeartbeats 4000000 in
theorem tX5_latest_9 {x9 : Cx} {K : Ct} {k9 : Nat} {M0 M9 : Mm} {r9 : Int32} (hE : Ce x9 K RX5 cX5_latest 8 (some .int) 1 22 "latest" M0) : ∀ (n9 : Nat) (v0 : Nat) (v1 : Int32) (v2 : Int32) (v3 : Int32) (v4 : Int32) (v5 : Int32) (v6 : Int32) (M : Mm), fX5_latest_9 x9 k9 n9 v0 v1 v2 v3 v4 v5 v6 M = some (r9, M9) → Go x9 K 8 (Qf x9 K M0 (some (.int r9)) M9) 9 [(0, .ref v0), (1, .int v1), (2, .int v2), (3, .int v3), (4, .int v4), (5, .int v5), (6, .int v6)] [] M := by
  have hC := hE.1
  have hnm := hE.2.2.2.2.2.2.2.1
  intro n9
  induction n9 with
  | zero => intro _ _ _ _ _ _ _ _ h; cases h
  | succ n9 ih =>
    intro v0 v1 v2 v3 v4 v5 v6 M h
    rw [fX5_latest_9] at h
    refine go_iload hC dX5_latest_9 6 rfl ?_
    refine go_aload_n hC dX5_latest_11 rfl 0 rfl ?_
    obtain ⟨h1, h⟩ := os_1 h
    refine go_getV 5 hC h1 rfl rfl (C := RX5) (T := TX5) (N := 28) rfl inlX5 (by decide) m_103 (Or.inl rfl) dX5_latest_12 ?_
    refine go_icmp_ge (t := 109) hC dX5_latest_15 (by decide) (fun c2 => ?_) (fun c2 => ?_)
    · have h := os_t h c2
      refine go_iload hC dX5_latest_109 5 rfl ?_
      cases h
      exact go_iret hE dX5_latest_111
    · have h := os_f h c2
      refine go_iload_n hC dX5_latest_18 rfl 3 rfl ?_
      refine go_iconst hC dX5_latest_19 (v := (-1 : Int32)) (by decide +kernel) ?_
      refine go_icmp_eq (t := 33) hC dX5_latest_20 (by decide) (fun c3 => ?_) (fun c3 => ?_)
      · have h := os_t h c3
        exact tX5_latest_33 hE ih _ _ _ _ _ _ _ _ h
      · have h := os_f h c3
        refine go_aload_n hC dX5_latest_23 rfl 0 rfl ?_
        refine go_iload_n hC dX5_latest_24 rfl 3 rfl ?_
        refine go_iload hC dX5_latest_25 6 rfl ?_
        obtain ⟨h7, h⟩ := os_1 h
        obtain ⟨r4, M5, h6, h⟩ := os_c h
        refine go_callV (bytes := cX5_sees) (maxL := 3) (ret := (some .boolean)) (n := 2) (As := [.int v3, .int v6]) (st := []) hE (c_X5_sees K.2.1 h6) (by unfold okY; decide +kernel) rfl h7 rfl (C := RX5) (T := TX5) (N := 28) rfl m_312 m_309 m_310 m_311 m_5 rfl (by simp [Value.category]) (by decide) (by decide) dX5_latest_27 ?_
        refine go_eq (pc' := 30) (st' := [.int r4]) (M' := M5) (lv' := [(0, .ref v0), (1, .int v1), (2, .int v2), (3, .int v3), (4, .int v4), (5, .int v5), (6, .int v6)]) ?_ rfl rfl rfl rfl
        refine go_if_eq (t := 37) hC dX5_latest_30 (by decide) (fun c8 => ?_) (fun c8 => ?_)
        · have h := os_t h c8
          refine go_iconst hC dX5_latest_37 (v := (0 : Int32)) (by decide +kernel) ?_
          exact tX5_latest_38 hE ih _ _ _ _ _ _ _ _ _ h
        · have h := os_f h c8
          exact tX5_latest_33 hE ih _ _ _ _ _ _ _ _ h
def fX5_latest (x9 : Cx) (k9 : Nat) (v0 : Nat) (v1 : Int32) (v2 : Int32) (v3 : Int32) (M : Mm) : Option (Int32 × Mm) :=
  fX5_latest_9 x9 k9 k9 v0 v1 v2 v3 (0 : Int32) (0 : Int32) (0 : Int32) M
set_option maxRecDepth 100000 in
set_option maxHeartbeats 4000000 in
theorem tX5_latest_0 {x9 : Cx} {K : Ct} {k9 : Nat} {M0 M9 : Mm} {r9 : Int32} (hE : Ce x9 K RX5 cX5_latest 8 (some .int) 1 22 "latest" M0) (v0 : Nat) (v1 : Int32) (v2 : Int32) (v3 : Int32) (M : Mm) (h : fX5_latest x9 k9 v0 v1 v2 v3 M = some (r9, M9)) : Go x9 K 8 (Qf x9 K M0 (some (.int r9)) M9) 0 [(0, .ref v0), (1, .int v1), (2, .int v2), (3, .int v3)] [] M := by
  have hC := hE.1
  have hnm := hE.2.2.2.2.2.2.2.1
  unfold fX5_latest at h
  refine go_iconst hC dX5_latest_0 (v := (0 : Int32)) (by decide +kernel) ?_
  refine go_istore (lv' := [(4, .int (0 : Int32)), (0, .ref v0), (1, .int v1), (2, .int v2), (3, .int v3)]) hC dX5_latest_1 (by decide) rfl ?_
  refine go_iconst hC dX5_latest_3 (v := (0 : Int32)) (by decide +kernel) ?_
  refine go_istore (lv' := [(5, .int (0 : Int32)), (4, .int (0 : Int32)), (0, .ref v0), (1, .int v1), (2, .int v2), (3, .int v3)]) hC dX5_latest_4 (by decide) rfl ?_
  refine go_iconst hC dX5_latest_6 (v := (0 : Int32)) (by decide +kernel) ?_
  refine go_istore (lv' := [(6, .int (0 : Int32)), (5, .int (0 : Int32)), (4, .int (0 : Int32)), (0, .ref v0), (1, .int v1), (2, .int v2), (3, .int v3)]) hC dX5_latest_7 (by decide) rfl ?_
  refine go_sub (lv' := [(0, .ref v0), (1, .int v1), (2, .int v2), (3, .int v3), (4, .int (0 : Int32)), (5, .int (0 : Int32)), (6, .int (0 : Int32))]) [3, 4, 5, 6, 2, 1, 0] rfl ?_
  exact tX5_latest_9 hE k9 _ _ _ _ _ _ _ _ h
theorem c_X5_latest (l : Launch) {x9 : Cx} {k9 : Nat} {M M9 : Mm} {r9 : Int32} {v0 : Nat} {v1 : Int32} {v2 : Int32} {v3 : Int32} (h : fX5_latest x9 k9 v0 v1 v2 v3 M = some (r9, M9)) : Fn l x9 yX5_latest cX5_latest 8 (some .int) 1 22 [.ref v0, .int v1, .int v2, .int v3] M (some (.int r9)) M9 :=
  Fn.of (by decide +kernel) (Nat.le_of_ble_eq_true rfl) rfl (fun K _ hE => tX5_latest_0 hE _ _ _ _ _ h)
/-! X5_read -/
def fX5_read_50 (x9 : Cx) (k9 : Nat) (M : Mm) : Option (Int32 × Mm) :=
  some ((0 : Int32), M)
set_option maxRecDepth 100000 in
set_option maxHeartbeats 4000000 in
theorem tX5_read_50 {x9 : Cx} {K : Ct} {k9 : Nat} {M0 M9 : Mm} {r9 : Int32} (hE : Ce x9 K RX5 cX5_read 3 (some .int) 2 49 "read" M0) (M : Mm) (h : fX5_read_50 x9 k9 M = some (r9, M9)) : Go x9 K 3 (Qf x9 K M0 (some (.int r9)) M9) 50 [] [] M := by
  have hC := hE.1
  have hnm := hE.2.2.2.2.2.2.2.1
  unfold fX5_read_50 at h
  refine go_iconst hC dX5_read_50 (v := (0 : Int32)) (by decide +kernel) ?_
  cases h
  exact go_iret hE dX5_read_51
def fX5_read_92 (x9 : Cx) (k9 : Nat) (s0 : Int32) (M : Mm) : Option (Int32 × Mm) :=
  some (s0, M)
set_option maxRecDepth 100000 in
set_option maxHeartbeats 4000000 in
theorem tX5_read_92 {x9 : Cx} {K : Ct} {k9 : Nat} {M0 M9 : Mm} {r9 : Int32} (hE : Ce x9 K RX5 cX5_read 3 (some .int) 2 49 "read" M0) (s0 : Int32) (M : Mm) (h : fX5_read_92 x9 k9 s0 M = some (r9, M9)) : Go x9 K 3 (Qf x9 K M0 (some (.int r9)) M9) 92 [] [.int s0] M := by
  have hC := hE.1
  have hnm := hE.2.2.2.2.2.2.2.1
  unfold fX5_read_92 at h
  cases h
  exact go_iret hE dX5_read_92
def fX5_read_43 (x9 : Cx) (k9 : Nat) (v0 : Nat) (v1 : Int32) (v2 : Int32) (s0 : Nat) (s1 : Int32) (M : Mm) : Option (Int32 × Mm) :=
  if mK M s0 = 6 then ob2 (fX5_fails x9 k9 s0 s1 (2 : Int32) M) (fun r1 M2 => if r1 = 0 then if mK M2 v0 = 6 then ob1 (mP M2 v0 15) (fun b7 => if mK M2 b7 = 9 ∧ ¬ ((((20 : Int32) * v1) + v2) < 0 ∨ mN M2 b7 ≤ ((((20 : Int32) * v1) + v2)).toNatClampNeg) then if (mV M2 b7 ((((20 : Int32) * v1) + v2)).toNatClampNeg) = 0 then if mK M2 v0 = 6 then ob1 (mP M2 v0 6) (fun b12 => if mK M2 b12 = 8 ∧ ¬ (v1 < 0 ∨ mN M2 b12 ≤ (v1).toNatClampNeg) then if mK M2 v0 = 6 then ob2 (fX5_latest x9 k9 v0 (mV M2 b12 (v1).toNatClampNeg) v2 v1 M2) (fun r15 M16 => fX5_read_92 x9 k9 r15 M16) else none else none) else none else if mK M2 v0 = 6 then ob1 (mP M2 v0 16) (fun b20 => if mK M2 b20 = 8 ∧ ¬ ((((20 : Int32) * v1) + v2) < 0 ∨ mN M2 b20 ≤ ((((20 : Int32) * v1) + v2)).toNatClampNeg) then fX5_read_92 x9 k9 (mV M2 b20 ((((20 : Int32) * v1) + v2)).toNatClampNeg) M2 else none) else none else none) else none else fX5_read_50 x9 k9 M2) else none
set_option maxRecDepth 100000 in
set_option maxHeartbeats 4000000 in
theorem tX5_read_43 {x9 : Cx} {K : Ct} {k9 : Nat} {M0 M9 : Mm} {r9 : Int32} (hE : Ce x9 K RX5 cX5_read 3 (some .int) 2 49 "read" M0) (v0 : Nat) (v1 : Int32) (v2 : Int32) (s0 : Nat) (s1 : Int32) (M : Mm) (h : fX5_read_43 x9 k9 v0 v1 v2 s0 s1 M = some (r9, M9)) : Go x9 K 3 (Qf x9 K M0 (some (.int r9)) M9) 43 [(0, .ref v0), (1, .int v1), (2, .int v2)] [.int s1, .ref s0] M := by
  have hC := hE.1
  have hnm := hE.2.2.2.2.2.2.2.1
  unfold fX5_read_43 at h
  refine go_iconst hC dX5_read_43 (v := (2 : Int32)) (by decide +kernel) ?_
  obtain ⟨h4, h⟩ := os_1 h
  obtain ⟨r1, M2, h3, h⟩ := os_c h
  refine go_callV (bytes := cX5_fails) (maxL := 3) (ret := (some .boolean)) (n := 2) (As := [.int s1, .int (2 : Int32)]) (st := []) hE (c_X5_fails K.2.1 h3) (by unfold okY; decide +kernel) rfl h4 rfl (C := RX5) (T := TX5) (N := 28) rfl m_127 m_124 m_125 m_126 m_5 rfl (by simp [Value.category]) (by decide) (by decide) dX5_read_44 ?_
  refine go_eq (pc' := 47) (st' := [.int r1]) (M' := M2) (lv' := [(0, .ref v0), (1, .int v1), (2, .int v2)]) ?_ rfl rfl rfl rfl
  refine go_if_eq (t := 52) hC dX5_read_47 (by decide) (fun c5 => ?_) (fun c5 => ?_)
  · have h := os_t h c5
    refine go_aload_n hC dX5_read_52 rfl 0 rfl ?_
    obtain ⟨h6, h⟩ := os_1 h
    obtain ⟨b7, h8, h⟩ := os_b h
    refine go_getR 15 hC h6 rfl rfl h8 (C := RX5) (T := TX5) (N := 28) rfl inlX5 (by decide) m_89 (Or.inl rfl) dX5_read_53 ?_
    refine go_bipush hC dX5_read_56 (v := (20 : Int32)) (by decide +kernel) ?_
    refine go_iload_n hC dX5_read_58 rfl 1 rfl ?_
    refine go_imul hC dX5_read_59 ?_
    refine go_iload_n hC dX5_read_60 rfl 2 rfl ?_
    refine go_iadd hC dX5_read_61 ?_
    obtain ⟨h9, h⟩ := os_1 h
    refine go_zald hC h9.1 h9.2 dX5_read_62 ?_
    refine go_if_eq (t := 80) hC dX5_read_63 (by decide) (fun c10 => ?_) (fun c10 => ?_)
    · have h := os_t h c10
      refine go_aload_n hC dX5_read_80 rfl 0 rfl ?_
      refine go_aload_n hC dX5_read_81 rfl 0 rfl ?_
      obtain ⟨h11, h⟩ := os_1 h
      obtain ⟨b12, h13, h⟩ := os_b h
      refine go_getR 6 hC h11 rfl rfl h13 (C := RX5) (T := TX5) (N := 28) rfl inlX5 (by decide) m_80 (Or.inl rfl) dX5_read_82 ?_
      refine go_iload_n hC dX5_read_85 rfl 1 rfl ?_
      obtain ⟨h14, h⟩ := os_1 h
      refine go_iald hC h14.1 h14.2 dX5_read_86 ?_
      refine go_iload_n hC dX5_read_87 rfl 2 rfl ?_
      refine go_iload_n hC dX5_read_88 rfl 1 rfl ?_
      obtain ⟨h18, h⟩ := os_1 h
      obtain ⟨r15, M16, h17, h⟩ := os_c h
      refine go_callV (bytes := cX5_latest) (maxL := 8) (ret := (some .int)) (n := 3) (As := [.int (mV M2 b12 (v1).toNatClampNeg), .int v2, .int v1]) (st := []) hE (c_X5_latest K.2.1 h17) (by unfold okY; decide +kernel) rfl h18 rfl (C := RX5) (T := TX5) (N := 28) rfl m_308 m_305 m_306 m_307 m_5 rfl (by simp [Value.category]) (by decide) (by decide) dX5_read_89 ?_
      refine go_eq (pc' := 92) (st' := [.int r15]) (M' := M16) (lv' := [(0, .ref v0), (1, .int v1), (2, .int v2)]) ?_ rfl rfl rfl rfl
      refine go_sub (lv' := []) [] rfl ?_
      exact tX5_read_92 hE _ _ h
    · have h := os_f h c10
      refine go_aload_n hC dX5_read_66 rfl 0 rfl ?_
      obtain ⟨h19, h⟩ := os_1 h
      obtain ⟨b20, h21, h⟩ := os_b h
      refine go_getR 16 hC h19 rfl rfl h21 (C := RX5) (T := TX5) (N := 28) rfl inlX5 (by decide) m_90 (Or.inl rfl) dX5_read_67 ?_
      refine go_bipush hC dX5_read_70 (v := (20 : Int32)) (by decide +kernel) ?_
      refine go_iload_n hC dX5_read_72 rfl 1 rfl ?_
      refine go_imul hC dX5_read_73 ?_
      refine go_iload_n hC dX5_read_74 rfl 2 rfl ?_
      refine go_iadd hC dX5_read_75 ?_
      obtain ⟨h22, h⟩ := os_1 h
      refine go_iald hC h22.1 h22.2 dX5_read_76 ?_
      refine go_goto (t := 92) hC dX5_read_77 (by decide) ?_
      refine go_sub (lv' := []) [] rfl ?_
      exact tX5_read_92 hE _ _ h
  · have h := os_f h c5
    refine go_sub (lv' := []) [] rfl ?_
    exact tX5_read_50 hE _ h
def fX5_read_21 (x9 : Cx) (k9 : Nat) (v0 : Nat) (v1 : Int32) (v2 : Int32) (s0 : Nat) (s1 : Int32) (M : Mm) : Option (Int32 × Mm) :=
  if mK M s0 = 6 then ob2 (fX5_fails x9 k9 s0 s1 (1 : Int32) M) (fun r1 M2 => if r1 = 0 then if mK M2 v0 = 6 then ob1 (mP M2 v0 7) (fun b7 => if mK M2 b7 = 8 ∧ ¬ (v1 < 0 ∨ mN M2 b7 ≤ (v1).toNatClampNeg) then if (mV M2 b7 (v1).toNatClampNeg) = 0 then fX5_read_43 x9 k9 v0 v1 v2 v0 (0 : Int32) M2 else fX5_read_43 x9 k9 v0 v1 v2 v0 (1 : Int32) M2 else none) else none else fX5_read_50 x9 k9 M2) else none
set_option maxRecDepth 100000 in
set_option maxHeartbeats 4000000 in
theorem tX5_read_21 {x9 : Cx} {K : Ct} {k9 : Nat} {M0 M9 : Mm} {r9 : Int32} (hE : Ce x9 K RX5 cX5_read 3 (some .int) 2 49 "read" M0) (v0 : Nat) (v1 : Int32) (v2 : Int32) (s0 : Nat) (s1 : Int32) (M : Mm) (h : fX5_read_21 x9 k9 v0 v1 v2 s0 s1 M = some (r9, M9)) : Go x9 K 3 (Qf x9 K M0 (some (.int r9)) M9) 21 [(0, .ref v0), (1, .int v1), (2, .int v2)] [.int s1, .ref s0] M := by
  have hC := hE.1
  have hnm := hE.2.2.2.2.2.2.2.1
  unfold fX5_read_21 at h
  refine go_iconst hC dX5_read_21 (v := (1 : Int32)) (by decide +kernel) ?_
  obtain ⟨h4, h⟩ := os_1 h
  obtain ⟨r1, M2, h3, h⟩ := os_c h
  refine go_callV (bytes := cX5_fails) (maxL := 3) (ret := (some .boolean)) (n := 2) (As := [.int s1, .int (1 : Int32)]) (st := []) hE (c_X5_fails K.2.1 h3) (by unfold okY; decide +kernel) rfl h4 rfl (C := RX5) (T := TX5) (N := 28) rfl m_127 m_124 m_125 m_126 m_5 rfl (by simp [Value.category]) (by decide) (by decide) dX5_read_22 ?_
  refine go_eq (pc' := 25) (st' := [.int r1]) (M' := M2) (lv' := [(0, .ref v0), (1, .int v1), (2, .int v2)]) ?_ rfl rfl rfl rfl
  refine go_if_ne (t := 50) hC dX5_read_25 (by decide) (fun c5 => ?_) (fun c5 => ?_)
  · have h := os_f h c5
    refine go_sub (lv' := []) [] rfl ?_
    exact tX5_read_50 hE _ h
  · have h := os_t h c5
    refine go_aload_n hC dX5_read_28 rfl 0 rfl ?_
    refine go_aload_n hC dX5_read_29 rfl 0 rfl ?_
    obtain ⟨h6, h⟩ := os_1 h
    obtain ⟨b7, h8, h⟩ := os_b h
    refine go_getR 7 hC h6 rfl rfl h8 (C := RX5) (T := TX5) (N := 28) rfl inlX5 (by decide) m_81 (Or.inl rfl) dX5_read_30 ?_
    refine go_iload_n hC dX5_read_33 rfl 1 rfl ?_
    obtain ⟨h9, h⟩ := os_1 h
    refine go_iald hC h9.1 h9.2 dX5_read_34 ?_
    refine go_if_eq (t := 42) hC dX5_read_35 (by decide) (fun c10 => ?_) (fun c10 => ?_)
    · have h := os_t h c10
      refine go_iconst hC dX5_read_42 (v := (0 : Int32)) (by decide +kernel) ?_
      exact tX5_read_43 hE _ _ _ _ _ _ h
    · have h := os_f h c10
      refine go_iconst hC dX5_read_38 (v := (1 : Int32)) (by decide +kernel) ?_
      refine go_goto (t := 43) hC dX5_read_39 (by decide) ?_
      exact tX5_read_43 hE _ _ _ _ _ _ h
def fX5_read_16 (x9 : Cx) (k9 : Nat) (v0 : Nat) (v1 : Int32) (v2 : Int32) (s0 : Nat) (M : Mm) : Option (Int32 × Mm) :=
  fX5_read_21 x9 k9 v0 v1 v2 s0 (1 : Int32) M
set_option maxRecDepth 100000 in
set_option maxHeartbeats 4000000 in
theorem tX5_read_16 {x9 : Cx} {K : Ct} {k9 : Nat} {M0 M9 : Mm} {r9 : Int32} (hE : Ce x9 K RX5 cX5_read 3 (some .int) 2 49 "read" M0) (v0 : Nat) (v1 : Int32) (v2 : Int32) (s0 : Nat) (M : Mm) (h : fX5_read_16 x9 k9 v0 v1 v2 s0 M = some (r9, M9)) : Go x9 K 3 (Qf x9 K M0 (some (.int r9)) M9) 16 [(0, .ref v0), (1, .int v1), (2, .int v2)] [.ref s0] M := by
  have hC := hE.1
  have hnm := hE.2.2.2.2.2.2.2.1
  unfold fX5_read_16 at h
  refine go_iconst hC dX5_read_16 (v := (1 : Int32)) (by decide +kernel) ?_
  refine go_goto (t := 21) hC dX5_read_17 (by decide) ?_
  exact tX5_read_21 hE _ _ _ _ _ _ h
def fX5_read (x9 : Cx) (k9 : Nat) (v0 : Nat) (v1 : Int32) (v2 : Int32) (M : Mm) : Option (Int32 × Mm) :=
  if mK M v0 = 6 then ob2 (fX5_isOne x9 k9 v0 v1 M) (fun r1 M2 => if r1 = 0 then fX5_read_16 x9 k9 v0 v1 v2 v0 M2 else ob2 (fX5_isObject x9 k9 v2 M2) (fun r6 M7 => if r6 = 0 then fX5_read_16 x9 k9 v0 v1 v2 v0 M7 else fX5_read_21 x9 k9 v0 v1 v2 v0 (0 : Int32) M7)) else none
set_option maxRecDepth 100000 in
set_option maxHeartbeats 4000000 in
theorem tX5_read_0 {x9 : Cx} {K : Ct} {k9 : Nat} {M0 M9 : Mm} {r9 : Int32} (hE : Ce x9 K RX5 cX5_read 3 (some .int) 2 49 "read" M0) (v0 : Nat) (v1 : Int32) (v2 : Int32) (M : Mm) (h : fX5_read x9 k9 v0 v1 v2 M = some (r9, M9)) : Go x9 K 3 (Qf x9 K M0 (some (.int r9)) M9) 0 [(0, .ref v0), (1, .int v1), (2, .int v2)] [] M := by
  have hC := hE.1
  have hnm := hE.2.2.2.2.2.2.2.1
  unfold fX5_read at h
  refine go_aload_n hC dX5_read_0 rfl 0 rfl ?_
  refine go_aload_n hC dX5_read_1 rfl 0 rfl ?_
  refine go_iload_n hC dX5_read_2 rfl 1 rfl ?_
  obtain ⟨h4, h⟩ := os_1 h
  obtain ⟨r1, M2, h3, h⟩ := os_c h
  refine go_callV (bytes := cX5_isOne) (maxL := 2) (ret := (some .boolean)) (n := 1) (As := [.int v1]) (st := [.ref v0]) hE (c_X5_isOne K.2.1 h3) (by unfold okY; decide +kernel) rfl h4 rfl (C := RX5) (T := TX5) (N := 28) rfl m_301 m_298 m_299 m_300 m_5 rfl (by simp [Value.category]) (by decide) (by decide) dX5_read_3 ?_
  refine go_eq (pc' := 6) (st' := [.int r1, .ref v0]) (M' := M2) (lv' := [(0, .ref v0), (1, .int v1), (2, .int v2)]) ?_ rfl rfl rfl rfl
  refine go_if_eq (t := 16) hC dX5_read_6 (by decide) (fun c5 => ?_) (fun c5 => ?_)
  · have h := os_t h c5
    exact tX5_read_16 hE _ _ _ _ _ h
  · have h := os_f h c5
    refine go_iload_n hC dX5_read_9 rfl 2 rfl ?_
    obtain ⟨r6, M7, h8, h⟩ := os_c h
    refine go_callS (bytes := cX5_isObject) (maxL := 1) (ret := (some .boolean)) (n := 1) (As := [.int v2]) (st := [.ref v0]) hE (c_X5_isObject K.2.1 h8) (by unfold okY; decide +kernel) rfl m_304 m_302 m_303 m_5 rfl (by simp [Value.category]) (by decide) (by decide) dX5_read_10 ?_
    refine go_eq (pc' := 13) (st' := [.int r6, .ref v0]) (M' := M7) (lv' := [(0, .ref v0), (1, .int v1), (2, .int v2)]) ?_ rfl rfl rfl rfl
    refine go_if_ne (t := 20) hC dX5_read_13 (by decide) (fun c10 => ?_) (fun c10 => ?_)
    · have h := os_f h c10
      refine go_iconst hC dX5_read_20 (v := (0 : Int32)) (by decide +kernel) ?_
      exact tX5_read_21 hE _ _ _ _ _ _ h
    · have h := os_t h c10
      exact tX5_read_16 hE _ _ _ _ _ h
theorem c_X5_read (l : Launch) {x9 : Cx} {k9 : Nat} {M M9 : Mm} {r9 : Int32} {v0 : Nat} {v1 : Int32} {v2 : Int32} (h : fX5_read x9 k9 v0 v1 v2 M = some (r9, M9)) : Fn l x9 yX5_read cX5_read 3 (some .int) 2 49 [.ref v0, .int v1, .int v2] M (some (.int r9)) M9 :=
  Fn.of (by decide +kernel) (Nat.le_of_ble_eq_true rfl) rfl (fun K _ hE => tX5_read_0 hE _ _ _ _ h)
/-! X5_objectsOf -/
def fX5_objectsOf_30 (x9 : Cx) (k9 : Nat) (rec4 : Nat → Int32 → Int32 → Int32 → Mm → Option (Int32 × Mm)) (v0 : Nat) (v1 : Int32) (v3 : Int32) (s0 : Int32) (s1 : Int32) (M : Mm) : Option (Int32 × Mm) :=
  rec4 v0 v1 (s0 + s1) (v3 + 1) M
set_option maxRecDepth 100000 in
set_option maxHeartbeats 4000000 in
theorem tX5_objectsOf_30 {x9 : Cx} {K : Ct} {k9 : Nat} {M0 M9 : Mm} {r9 : Int32} (hE : Ce x9 K RX5 cX5_objectsOf 4 (some .int) 0 0 "objectsOf" M0) {rec4 : Nat → Int32 → Int32 → Int32 → Mm → Option (Int32 × Mm)} (hrec4 : ∀ (v0 : Nat) (v1 : Int32) (v2 : Int32) (v3 : Int32) (M : Mm), rec4 v0 v1 v2 v3 M = some (r9, M9) → Go x9 K 4 (Qf x9 K M0 (some (.int r9)) M9) 4 [(0, .ref v0), (1, .int v1), (2, .int v2), (3, .int v3)] [] M) (v0 : Nat) (v1 : Int32) (v3 : Int32) (s0 : Int32) (s1 : Int32) (M : Mm) (h : fX5_objectsOf_30 x9 k9 rec4 v0 v1 v3 s0 s1 M = some (r9, M9)) : Go x9 K 4 (Qf x9 K M0 (some (.int r9)) M9) 30 [(0, .ref v0), (1, .int v1), (3, .int v3)] [.int s1, .int s0] M := by
  have hC := hE.1
  have hnm := hE.2.2.2.2.2.2.2.1
  unfold fX5_objectsOf_30 at h
  refine go_iadd hC dX5_objectsOf_30 ?_
  refine go_istore_n (lv' := [(2, .int (s0 + s1)), (0, .ref v0), (1, .int v1), (3, .int v3)]) hC dX5_objectsOf_31 rfl (by decide) rfl ?_
  refine go_iinc (q := 3) (v := (v3 + 1)) (lv' := [(3, .int (v3 + 1)), (2, .int (s0 + s1)), (0, .ref v0), (1, .int v1)]) hC dX5_objectsOf_32 rfl rfl (by decide) rfl ?_
  refine go_goto (t := 4) hC dX5_objectsOf_35 (by decide) ?_
  refine go_sub (lv' := [(0, .ref v0), (1, .int v1), (2, .int (s0 + s1)), (3, .int (v3 + 1))]) [2, 3, 1, 0] rfl ?_
  exact hrec4 _ _ _ _ _ h
def fX5_objectsOf_4 (x9 : Cx) (k9 : Nat) : Nat → Nat → Int32 → Int32 → Int32 → Mm → Option (Int32 × Mm)
  | 0, _, _, _, _, _ => none
  | n9 + 1, v0, v1, v2, v3, M => if (20 : Int32) ≤ v3 then some (v2, M) else if mK M v0 = 6 then ob1 (mP M v0 15) (fun b3 => if mK M b3 = 9 ∧ ¬ ((((20 : Int32) * v1) + v3) < 0 ∨ mN M b3 ≤ ((((20 : Int32) * v1) + v3)).toNatClampNeg) then if (mV M b3 ((((20 : Int32) * v1) + v3)).toNatClampNeg) = 0 then fX5_objectsOf_30 x9 k9 (fX5_objectsOf_4 x9 k9 n9) v0 v1 v3 v2 (0 : Int32) M else fX5_objectsOf_30 x9 k9 (fX5_objectsOf_4 x9 k9 n9) v0 v1 v3 v2 (1 : Int32) M else none) else none
set_option maxRecDepth 100000 in
set_option maxHeartbeats 4000000 in
theorem tX5_objectsOf_4 {x9 : Cx} {K : Ct} {k9 : Nat} {M0 M9 : Mm} {r9 : Int32} (hE : Ce x9 K RX5 cX5_objectsOf 4 (some .int) 0 0 "objectsOf" M0) : ∀ (n9 : Nat) (v0 : Nat) (v1 : Int32) (v2 : Int32) (v3 : Int32) (M : Mm), fX5_objectsOf_4 x9 k9 n9 v0 v1 v2 v3 M = some (r9, M9) → Go x9 K 4 (Qf x9 K M0 (some (.int r9)) M9) 4 [(0, .ref v0), (1, .int v1), (2, .int v2), (3, .int v3)] [] M := by
  have hC := hE.1
  have hnm := hE.2.2.2.2.2.2.2.1
  intro n9
  induction n9 with
  | zero => intro _ _ _ _ _ h; cases h
  | succ n9 ih =>
    intro v0 v1 v2 v3 M h
    rw [fX5_objectsOf_4] at h
    refine go_iload_n hC dX5_objectsOf_4 rfl 3 rfl ?_
    refine go_bipush hC dX5_objectsOf_5 (v := (20 : Int32)) (by decide +kernel) ?_
    refine go_icmp_ge (t := 38) hC dX5_objectsOf_7 (by decide) (fun c1 => ?_) (fun c1 => ?_)
    · have h := os_t h c1
      refine go_iload_n hC dX5_objectsOf_38 rfl 2 rfl ?_
      cases h
      exact go_iret hE dX5_objectsOf_39
    · have h := os_f h c1
      refine go_iload_n hC dX5_objectsOf_10 rfl 2 rfl ?_
      refine go_aload_n hC dX5_objectsOf_11 rfl 0 rfl ?_
      obtain ⟨h2, h⟩ := os_1 h
      obtain ⟨b3, h4, h⟩ := os_b h
      refine go_getR 15 hC h2 rfl rfl h4 (C := RX5) (T := TX5) (N := 28) rfl inlX5 (by decide) m_89 (Or.inl rfl) dX5_objectsOf_12 ?_
      refine go_bipush hC dX5_objectsOf_15 (v := (20 : Int32)) (by decide +kernel) ?_
      refine go_iload_n hC dX5_objectsOf_17 rfl 1 rfl ?_
      refine go_imul hC dX5_objectsOf_18 ?_
      refine go_iload_n hC dX5_objectsOf_19 rfl 3 rfl ?_
      refine go_iadd hC dX5_objectsOf_20 ?_
      obtain ⟨h5, h⟩ := os_1 h
      refine go_zald hC h5.1 h5.2 dX5_objectsOf_21 ?_
      refine go_if_eq (t := 29) hC dX5_objectsOf_22 (by decide) (fun c6 => ?_) (fun c6 => ?_)
      · have h := os_t h c6
        refine go_iconst hC dX5_objectsOf_29 (v := (0 : Int32)) (by decide +kernel) ?_
        refine go_sub (lv' := [(0, .ref v0), (1, .int v1), (3, .int v3)]) [0, 1, 3] rfl ?_
        exact tX5_objectsOf_30 hE ih _ _ _ _ _ _ h
      · have h := os_f h c6
        refine go_iconst hC dX5_objectsOf_25 (v := (1 : Int32)) (by decide +kernel) ?_
        refine go_goto (t := 30) hC dX5_objectsOf_26 (by decide) ?_
        refine go_sub (lv' := [(0, .ref v0), (1, .int v1), (3, .int v3)]) [0, 1, 3] rfl ?_
        exact tX5_objectsOf_30 hE ih _ _ _ _ _ _ h
def fX5_objectsOf (x9 : Cx) (k9 : Nat) (v0 : Nat) (v1 : Int32) (M : Mm) : Option (Int32 × Mm) :=
  fX5_objectsOf_4 x9 k9 k9 v0 v1 (0 : Int32) (0 : Int32) M
set_option maxRecDepth 100000 in
set_option maxHeartbeats 4000000 in
theorem tX5_objectsOf_0 {x9 : Cx} {K : Ct} {k9 : Nat} {M0 M9 : Mm} {r9 : Int32} (hE : Ce x9 K RX5 cX5_objectsOf 4 (some .int) 0 0 "objectsOf" M0) (v0 : Nat) (v1 : Int32) (M : Mm) (h : fX5_objectsOf x9 k9 v0 v1 M = some (r9, M9)) : Go x9 K 4 (Qf x9 K M0 (some (.int r9)) M9) 0 [(0, .ref v0), (1, .int v1)] [] M := by
  have hC := hE.1
  have hnm := hE.2.2.2.2.2.2.2.1
  unfold fX5_objectsOf at h
  refine go_iconst hC dX5_objectsOf_0 (v := (0 : Int32)) (by decide +kernel) ?_
  refine go_istore_n (lv' := [(2, .int (0 : Int32)), (0, .ref v0), (1, .int v1)]) hC dX5_objectsOf_1 rfl (by decide) rfl ?_
  refine go_iconst hC dX5_objectsOf_2 (v := (0 : Int32)) (by decide +kernel) ?_
  refine go_istore_n (lv' := [(3, .int (0 : Int32)), (2, .int (0 : Int32)), (0, .ref v0), (1, .int v1)]) hC dX5_objectsOf_3 rfl (by decide) rfl ?_
  refine go_sub (lv' := [(0, .ref v0), (1, .int v1), (2, .int (0 : Int32)), (3, .int (0 : Int32))]) [2, 3, 1, 0] rfl ?_
  exact tX5_objectsOf_4 hE k9 _ _ _ _ _ h
theorem c_X5_objectsOf (l : Launch) {x9 : Cx} {k9 : Nat} {M M9 : Mm} {r9 : Int32} {v0 : Nat} {v1 : Int32} (h : fX5_objectsOf x9 k9 v0 v1 M = some (r9, M9)) : Fn l x9 yX5_objectsOf cX5_objectsOf 4 (some .int) 0 0 [.ref v0, .int v1] M (some (.int r9)) M9 :=
  Fn.of (by decide +kernel) (Nat.le_of_ble_eq_true rfl) rfl (fun K _ hE => tX5_objectsOf_0 hE _ _ _ h)
/-! X5_write -/
def fX5_write_74 (x9 : Cx) (k9 : Nat) (M : Mm) : Option (Int32 × Mm) :=
  some ((0 : Int32), M)
set_option maxRecDepth 100000 in
set_option maxHeartbeats 4000000 in
theorem tX5_write_74 {x9 : Cx} {K : Ct} {k9 : Nat} {M0 M9 : Mm} {r9 : Int32} (hE : Ce x9 K RX5 cX5_write 4 (some .int) 1 23 "write" M0) (M : Mm) (h : fX5_write_74 x9 k9 M = some (r9, M9)) : Go x9 K 4 (Qf x9 K M0 (some (.int r9)) M9) 74 [] [] M := by
  have hC := hE.1
  have hnm := hE.2.2.2.2.2.2.2.1
  unfold fX5_write_74 at h
  refine go_iconst hC dX5_write_74 (v := (0 : Int32)) (by decide +kernel) ?_
  cases h
  exact go_iret hE dX5_write_75
def fX5_write_67 (x9 : Cx) (k9 : Nat) (v0 : Nat) (v1 : Int32) (v2 : Int32) (v3 : Int32) (s0 : Nat) (s1 : Int32) (M : Mm) : Option (Int32 × Mm) :=
  if mK M s0 = 6 then ob2 (fX5_fails x9 k9 s0 s1 (2 : Int32) M) (fun r1 M2 => if r1 = 0 then if mK M2 v0 = 6 then ob1 (mP M2 v0 15) (fun b7 => if mK M2 b7 = 9 ∧ ¬ ((((20 : Int32) * v1) + v2) < 0 ∨ mN M2 b7 ≤ ((((20 : Int32) * v1) + v2)).toNatClampNeg) then lt1 (sV M2 b7 ((((20 : Int32) * v1) + v2)).toNatClampNeg (vp_nar .boolean (1 : Int32))) (fun M10 => if mK M10 v0 = 6 then ob1 (mP M10 v0 16) (fun b13 => if mK M10 b13 = 8 ∧ ¬ ((((20 : Int32) * v1) + v2) < 0 ∨ mN M10 b13 ≤ ((((20 : Int32) * v1) + v2)).toNatClampNeg) then if mK (sV M10 b13 ((((20 : Int32) * v1) + v2)).toNatClampNeg v3) v0 = 6 then ob2 (fX5_objectsOf x9 k9 v0 v1 (sV M10 b13 ((((20 : Int32) * v1) + v2)).toNatClampNeg v3)) (fun r16 M17 => some (r16, M17)) else none else none) else none) else none) else none else fX5_write_74 x9 k9 M2) else none
set_option maxRecDepth 100000 in
set_option maxHeartbeats 4000000 in
theorem tX5_write_67 {x9 : Cx} {K : Ct} {k9 : Nat} {M0 M9 : Mm} {r9 : Int32} (hE : Ce x9 K RX5 cX5_write 4 (some .int) 1 23 "write" M0) (v0 : Nat) (v1 : Int32) (v2 : Int32) (v3 : Int32) (s0 : Nat) (s1 : Int32) (M : Mm) (h : fX5_write_67 x9 k9 v0 v1 v2 v3 s0 s1 M = some (r9, M9)) : Go x9 K 4 (Qf x9 K M0 (some (.int r9)) M9) 67 [(0, .ref v0), (1, .int v1), (2, .int v2), (3, .int v3)] [.int s1, .ref s0] M := by
  have hC := hE.1
  have hnm := hE.2.2.2.2.2.2.2.1
  unfold fX5_write_67 at h
  refine go_iconst hC dX5_write_67 (v := (2 : Int32)) (by decide +kernel) ?_
  obtain ⟨h4, h⟩ := os_1 h
  obtain ⟨r1, M2, h3, h⟩ := os_c h
  refine go_callV (bytes := cX5_fails) (maxL := 3) (ret := (some .boolean)) (n := 2) (As := [.int s1, .int (2 : Int32)]) (st := []) hE (c_X5_fails K.2.1 h3) (by unfold okY; decide +kernel) rfl h4 rfl (C := RX5) (T := TX5) (N := 28) rfl m_127 m_124 m_125 m_126 m_5 rfl (by simp [Value.category]) (by decide) (by decide) dX5_write_68 ?_
  refine go_eq (pc' := 71) (st' := [.int r1]) (M' := M2) (lv' := [(0, .ref v0), (1, .int v1), (2, .int v2), (3, .int v3)]) ?_ rfl rfl rfl rfl
  refine go_if_eq (t := 76) hC dX5_write_71 (by decide) (fun c5 => ?_) (fun c5 => ?_)
  · have h := os_t h c5
    refine go_aload_n hC dX5_write_76 rfl 0 rfl ?_
    obtain ⟨h6, h⟩ := os_1 h
    obtain ⟨b7, h8, h⟩ := os_b h
    refine go_getR 15 hC h6 rfl rfl h8 (C := RX5) (T := TX5) (N := 28) rfl inlX5 (by decide) m_89 (Or.inl rfl) dX5_write_77 ?_
    refine go_bipush hC dX5_write_80 (v := (20 : Int32)) (by decide +kernel) ?_
    refine go_iload_n hC dX5_write_82 rfl 1 rfl ?_
    refine go_imul hC dX5_write_83 ?_
    refine go_iload_n hC dX5_write_84 rfl 2 rfl ?_
    refine go_iadd hC dX5_write_85 ?_
    refine go_iconst hC dX5_write_86 (v := (1 : Int32)) (by decide +kernel) ?_
    obtain ⟨h9, h⟩ := os_1 h
    refine go_zast hC h9.1 h9.2 dX5_write_87 ?_
    obtain ⟨M10, e11, h⟩ := os_l h
    refine go_eq (pc' := 88) (st' := []) (M' := M10) (lv' := [(0, .ref v0), (1, .int v1), (2, .int v2), (3, .int v3)]) ?_ rfl rfl rfl e11
    refine go_aload_n hC dX5_write_88 rfl 0 rfl ?_
    obtain ⟨h12, h⟩ := os_1 h
    obtain ⟨b13, h14, h⟩ := os_b h
    refine go_getR 16 hC h12 rfl rfl h14 (C := RX5) (T := TX5) (N := 28) rfl inlX5 (by decide) m_90 (Or.inl rfl) dX5_write_89 ?_
    refine go_bipush hC dX5_write_92 (v := (20 : Int32)) (by decide +kernel) ?_
    refine go_iload_n hC dX5_write_94 rfl 1 rfl ?_
    refine go_imul hC dX5_write_95 ?_
    refine go_iload_n hC dX5_write_96 rfl 2 rfl ?_
    refine go_iadd hC dX5_write_97 ?_
    refine go_iload_n hC dX5_write_98 rfl 3 rfl ?_
    obtain ⟨h15, h⟩ := os_1 h
    refine go_iast hC h15.1 h15.2 dX5_write_99 ?_
    refine go_aload_n hC dX5_write_100 rfl 0 rfl ?_
    refine go_iload_n hC dX5_write_101 rfl 1 rfl ?_
    obtain ⟨h19, h⟩ := os_1 h
    obtain ⟨r16, M17, h18, h⟩ := os_c h
    refine go_callV (bytes := cX5_objectsOf) (maxL := 4) (ret := (some .int)) (n := 1) (As := [.int v1]) (st := []) hE (c_X5_objectsOf K.2.1 h18) (by unfold okY; decide +kernel) rfl h19 rfl (C := RX5) (T := TX5) (N := 28) rfl m_339 m_336 m_337 m_338 m_5 rfl (by simp [Value.category]) (by decide) (by decide) dX5_write_102 ?_
    refine go_eq (pc' := 105) (st' := [.int r16]) (M' := M17) (lv' := [(0, .ref v0), (1, .int v1), (2, .int v2), (3, .int v3)]) ?_ rfl rfl rfl rfl
    cases h
    exact go_iret hE dX5_write_105
  · have h := os_f h c5
    refine go_sub (lv' := []) [] rfl ?_
    exact tX5_write_74 hE _ h
def fX5_write_62 (x9 : Cx) (k9 : Nat) (v0 : Nat) (v1 : Int32) (v2 : Int32) (v3 : Int32) (s0 : Nat) (M : Mm) : Option (Int32 × Mm) :=
  fX5_write_67 x9 k9 v0 v1 v2 v3 s0 (1 : Int32) M
set_option maxRecDepth 100000 in
set_option maxHeartbeats 4000000 in
theorem tX5_write_62 {x9 : Cx} {K : Ct} {k9 : Nat} {M0 M9 : Mm} {r9 : Int32} (hE : Ce x9 K RX5 cX5_write 4 (some .int) 1 23 "write" M0) (v0 : Nat) (v1 : Int32) (v2 : Int32) (v3 : Int32) (s0 : Nat) (M : Mm) (h : fX5_write_62 x9 k9 v0 v1 v2 v3 s0 M = some (r9, M9)) : Go x9 K 4 (Qf x9 K M0 (some (.int r9)) M9) 62 [(0, .ref v0), (1, .int v1), (2, .int v2), (3, .int v3)] [.ref s0] M := by
  have hC := hE.1
  have hnm := hE.2.2.2.2.2.2.2.1
  unfold fX5_write_62 at h
  refine go_iconst hC dX5_write_62 (v := (1 : Int32)) (by decide +kernel) ?_
  refine go_goto (t := 67) hC dX5_write_63 (by decide) ?_
  exact tX5_write_67 hE _ _ _ _ _ _ _ h
def fX5_write_66 (x9 : Cx) (k9 : Nat) (v0 : Nat) (v1 : Int32) (v2 : Int32) (v3 : Int32) (s0 : Nat) (M : Mm) : Option (Int32 × Mm) :=
  fX5_write_67 x9 k9 v0 v1 v2 v3 s0 (0 : Int32) M
set_option maxRecDepth 100000 in
set_option maxHeartbeats 4000000 in
theorem tX5_write_66 {x9 : Cx} {K : Ct} {k9 : Nat} {M0 M9 : Mm} {r9 : Int32} (hE : Ce x9 K RX5 cX5_write 4 (some .int) 1 23 "write" M0) (v0 : Nat) (v1 : Int32) (v2 : Int32) (v3 : Int32) (s0 : Nat) (M : Mm) (h : fX5_write_66 x9 k9 v0 v1 v2 v3 s0 M = some (r9, M9)) : Go x9 K 4 (Qf x9 K M0 (some (.int r9)) M9) 66 [(0, .ref v0), (1, .int v1), (2, .int v2), (3, .int v3)] [.ref s0] M := by
  have hC := hE.1
  have hnm := hE.2.2.2.2.2.2.2.1
  unfold fX5_write_66 at h
  refine go_iconst hC dX5_write_66 (v := (0 : Int32)) (by decide +kernel) ?_
  exact tX5_write_67 hE _ _ _ _ _ _ _ h
def fX5_write_21 (x9 : Cx) (k9 : Nat) (v0 : Nat) (v1 : Int32) (v2 : Int32) (v3 : Int32) (s0 : Nat) (s1 : Int32) (M : Mm) : Option (Int32 × Mm) :=
  if mK M s0 = 6 then ob2 (fX5_fails x9 k9 s0 s1 (1 : Int32) M) (fun r1 M2 => if r1 = 0 then if mK M2 v0 = 6 then ob1 (mP M2 v0 7) (fun b7 => if mK M2 b7 = 8 ∧ ¬ (v1 < 0 ∨ mN M2 b7 ≤ (v1).toNatClampNeg) then if (mV M2 b7 (v1).toNatClampNeg) = 0 then if mK M2 v0 = 6 then ob1 (mP M2 v0 15) (fun b12 => if mK M2 b12 = 9 ∧ ¬ ((((20 : Int32) * v1) + v2) < 0 ∨ mN M2 b12 ≤ ((((20 : Int32) * v1) + v2)).toNatClampNeg) then if (mV M2 b12 ((((20 : Int32) * v1) + v2)).toNatClampNeg) = 0 then if mK M2 v0 = 6 then ob2 (fX5_objectsOf x9 k9 v0 v1 M2) (fun r16 M17 => if r16 = (10 : Int32) then fX5_write_62 x9 k9 v0 v1 v2 v3 v0 M17 else fX5_write_66 x9 k9 v0 v1 v2 v3 v0 M17) else none else fX5_write_66 x9 k9 v0 v1 v2 v3 v0 M2 else none) else none else fX5_write_62 x9 k9 v0 v1 v2 v3 v0 M2 else none) else none else fX5_write_74 x9 k9 M2) else none
set_option maxRecDepth 100000 in
set_option maxHeartbeats 4000000 in
theorem tX5_write_21 {x9 : Cx} {K : Ct} {k9 : Nat} {M0 M9 : Mm} {r9 : Int32} (hE : Ce x9 K RX5 cX5_write 4 (some .int) 1 23 "write" M0) (v0 : Nat) (v1 : Int32) (v2 : Int32) (v3 : Int32) (s0 : Nat) (s1 : Int32) (M : Mm) (h : fX5_write_21 x9 k9 v0 v1 v2 v3 s0 s1 M = some (r9, M9)) : Go x9 K 4 (Qf x9 K M0 (some (.int r9)) M9) 21 [(0, .ref v0), (1, .int v1), (2, .int v2), (3, .int v3)] [.int s1, .ref s0] M := by
  have hC := hE.1
  have hnm := hE.2.2.2.2.2.2.2.1
  unfold fX5_write_21 at h
  refine go_iconst hC dX5_write_21 (v := (1 : Int32)) (by decide +kernel) ?_
  obtain ⟨h4, h⟩ := os_1 h
  obtain ⟨r1, M2, h3, h⟩ := os_c h
  refine go_callV (bytes := cX5_fails) (maxL := 3) (ret := (some .boolean)) (n := 2) (As := [.int s1, .int (1 : Int32)]) (st := []) hE (c_X5_fails K.2.1 h3) (by unfold okY; decide +kernel) rfl h4 rfl (C := RX5) (T := TX5) (N := 28) rfl m_127 m_124 m_125 m_126 m_5 rfl (by simp [Value.category]) (by decide) (by decide) dX5_write_22 ?_
  refine go_eq (pc' := 25) (st' := [.int r1]) (M' := M2) (lv' := [(0, .ref v0), (1, .int v1), (2, .int v2), (3, .int v3)]) ?_ rfl rfl rfl rfl
  refine go_if_ne (t := 74) hC dX5_write_25 (by decide) (fun c5 => ?_) (fun c5 => ?_)
  · have h := os_f h c5
    refine go_sub (lv' := []) [] rfl ?_
    exact tX5_write_74 hE _ h
  · have h := os_t h c5
    refine go_aload_n hC dX5_write_28 rfl 0 rfl ?_
    refine go_aload_n hC dX5_write_29 rfl 0 rfl ?_
    obtain ⟨h6, h⟩ := os_1 h
    obtain ⟨b7, h8, h⟩ := os_b h
    refine go_getR 7 hC h6 rfl rfl h8 (C := RX5) (T := TX5) (N := 28) rfl inlX5 (by decide) m_81 (Or.inl rfl) dX5_write_30 ?_
    refine go_iload_n hC dX5_write_33 rfl 1 rfl ?_
    obtain ⟨h9, h⟩ := os_1 h
    refine go_iald hC h9.1 h9.2 dX5_write_34 ?_
    refine go_if_ne (t := 62) hC dX5_write_35 (by decide) (fun c10 => ?_) (fun c10 => ?_)
    · have h := os_f h c10
      exact tX5_write_62 hE _ _ _ _ _ _ h
    · have h := os_t h c10
      refine go_aload_n hC dX5_write_38 rfl 0 rfl ?_
      obtain ⟨h11, h⟩ := os_1 h
      obtain ⟨b12, h13, h⟩ := os_b h
      refine go_getR 15 hC h11 rfl rfl h13 (C := RX5) (T := TX5) (N := 28) rfl inlX5 (by decide) m_89 (Or.inl rfl) dX5_write_39 ?_
      refine go_bipush hC dX5_write_42 (v := (20 : Int32)) (by decide +kernel) ?_
      refine go_iload_n hC dX5_write_44 rfl 1 rfl ?_
      refine go_imul hC dX5_write_45 ?_
      refine go_iload_n hC dX5_write_46 rfl 2 rfl ?_
      refine go_iadd hC dX5_write_47 ?_
      obtain ⟨h14, h⟩ := os_1 h
      refine go_zald hC h14.1 h14.2 dX5_write_48 ?_
      refine go_if_ne (t := 66) hC dX5_write_49 (by decide) (fun c15 => ?_) (fun c15 => ?_)
      · have h := os_f h c15
        exact tX5_write_66 hE _ _ _ _ _ _ h
      · have h := os_t h c15
        refine go_aload_n hC dX5_write_52 rfl 0 rfl ?_
        refine go_iload_n hC dX5_write_53 rfl 1 rfl ?_
        obtain ⟨h19, h⟩ := os_1 h
        obtain ⟨r16, M17, h18, h⟩ := os_c h
        refine go_callV (bytes := cX5_objectsOf) (maxL := 4) (ret := (some .int)) (n := 1) (As := [.int v1]) (st := [.ref v0]) hE (c_X5_objectsOf K.2.1 h18) (by unfold okY; decide +kernel) rfl h19 rfl (C := RX5) (T := TX5) (N := 28) rfl m_339 m_336 m_337 m_338 m_5 rfl (by simp [Value.category]) (by decide) (by decide) dX5_write_54 ?_
        refine go_eq (pc' := 57) (st' := [.int r16, .ref v0]) (M' := M17) (lv' := [(0, .ref v0), (1, .int v1), (2, .int v2), (3, .int v3)]) ?_ rfl rfl rfl rfl
        refine go_bipush hC dX5_write_57 (v := (10 : Int32)) (by decide +kernel) ?_
        refine go_icmp_ne (t := 66) hC dX5_write_59 (by decide) (fun c20 => ?_) (fun c20 => ?_)
        · have h := os_f h c20
          exact tX5_write_66 hE _ _ _ _ _ _ h
        · have h := os_t h c20
          exact tX5_write_62 hE _ _ _ _ _ _ h
def fX5_write_16 (x9 : Cx) (k9 : Nat) (v0 : Nat) (v1 : Int32) (v2 : Int32) (v3 : Int32) (s0 : Nat) (M : Mm) : Option (Int32 × Mm) :=
  fX5_write_21 x9 k9 v0 v1 v2 v3 s0 (1 : Int32) M
set_option maxRecDepth 100000 in
set_option maxHeartbeats 4000000 in
theorem tX5_write_16 {x9 : Cx} {K : Ct} {k9 : Nat} {M0 M9 : Mm} {r9 : Int32} (hE : Ce x9 K RX5 cX5_write 4 (some .int) 1 23 "write" M0) (v0 : Nat) (v1 : Int32) (v2 : Int32) (v3 : Int32) (s0 : Nat) (M : Mm) (h : fX5_write_16 x9 k9 v0 v1 v2 v3 s0 M = some (r9, M9)) : Go x9 K 4 (Qf x9 K M0 (some (.int r9)) M9) 16 [(0, .ref v0), (1, .int v1), (2, .int v2), (3, .int v3)] [.ref s0] M := by
  have hC := hE.1
  have hnm := hE.2.2.2.2.2.2.2.1
  unfold fX5_write_16 at h
  refine go_iconst hC dX5_write_16 (v := (1 : Int32)) (by decide +kernel) ?_
  refine go_goto (t := 21) hC dX5_write_17 (by decide) ?_
  exact tX5_write_21 hE _ _ _ _ _ _ _ h
def fX5_write (x9 : Cx) (k9 : Nat) (v0 : Nat) (v1 : Int32) (v2 : Int32) (v3 : Int32) (M : Mm) : Option (Int32 × Mm) :=
  if mK M v0 = 6 then ob2 (fX5_isOne x9 k9 v0 v1 M) (fun r1 M2 => if r1 = 0 then fX5_write_16 x9 k9 v0 v1 v2 v3 v0 M2 else ob2 (fX5_isObject x9 k9 v2 M2) (fun r6 M7 => if r6 = 0 then fX5_write_16 x9 k9 v0 v1 v2 v3 v0 M7 else fX5_write_21 x9 k9 v0 v1 v2 v3 v0 (0 : Int32) M7)) else none
set_option maxRecDepth 100000 in
set_option maxHeartbeats 4000000 in
theorem tX5_write_0 {x9 : Cx} {K : Ct} {k9 : Nat} {M0 M9 : Mm} {r9 : Int32} (hE : Ce x9 K RX5 cX5_write 4 (some .int) 1 23 "write" M0) (v0 : Nat) (v1 : Int32) (v2 : Int32) (v3 : Int32) (M : Mm) (h : fX5_write x9 k9 v0 v1 v2 v3 M = some (r9, M9)) : Go x9 K 4 (Qf x9 K M0 (some (.int r9)) M9) 0 [(0, .ref v0), (1, .int v1), (2, .int v2), (3, .int v3)] [] M := by
  have hC := hE.1
  have hnm := hE.2.2.2.2.2.2.2.1
  unfold fX5_write at h
  refine go_aload_n hC dX5_write_0 rfl 0 rfl ?_
  refine go_aload_n hC dX5_write_1 rfl 0 rfl ?_
  refine go_iload_n hC dX5_write_2 rfl 1 rfl ?_
  obtain ⟨h4, h⟩ := os_1 h
  obtain ⟨r1, M2, h3, h⟩ := os_c h
  refine go_callV (bytes := cX5_isOne) (maxL := 2) (ret := (some .boolean)) (n := 1) (As := [.int v1]) (st := [.ref v0]) hE (c_X5_isOne K.2.1 h3) (by unfold okY; decide +kernel) rfl h4 rfl (C := RX5) (T := TX5) (N := 28) rfl m_301 m_298 m_299 m_300 m_5 rfl (by simp [Value.category]) (by decide) (by decide) dX5_write_3 ?_
  refine go_eq (pc' := 6) (st' := [.int r1, .ref v0]) (M' := M2) (lv' := [(0, .ref v0), (1, .int v1), (2, .int v2), (3, .int v3)]) ?_ rfl rfl rfl rfl
  refine go_if_eq (t := 16) hC dX5_write_6 (by decide) (fun c5 => ?_) (fun c5 => ?_)
  · have h := os_t h c5
    exact tX5_write_16 hE _ _ _ _ _ _ h
  · have h := os_f h c5
    refine go_iload_n hC dX5_write_9 rfl 2 rfl ?_
    obtain ⟨r6, M7, h8, h⟩ := os_c h
    refine go_callS (bytes := cX5_isObject) (maxL := 1) (ret := (some .boolean)) (n := 1) (As := [.int v2]) (st := [.ref v0]) hE (c_X5_isObject K.2.1 h8) (by unfold okY; decide +kernel) rfl m_304 m_302 m_303 m_5 rfl (by simp [Value.category]) (by decide) (by decide) dX5_write_10 ?_
    refine go_eq (pc' := 13) (st' := [.int r6, .ref v0]) (M' := M7) (lv' := [(0, .ref v0), (1, .int v1), (2, .int v2), (3, .int v3)]) ?_ rfl rfl rfl rfl
    refine go_if_ne (t := 20) hC dX5_write_13 (by decide) (fun c10 => ?_) (fun c10 => ?_)
    · have h := os_f h c10
      refine go_iconst hC dX5_write_20 (v := (0 : Int32)) (by decide +kernel) ?_
      exact tX5_write_21 hE _ _ _ _ _ _ _ h
    · have h := os_t h c10
      exact tX5_write_16 hE _ _ _ _ _ _ h
theorem c_X5_write (l : Launch) {x9 : Cx} {k9 : Nat} {M M9 : Mm} {r9 : Int32} {v0 : Nat} {v1 : Int32} {v2 : Int32} {v3 : Int32} (h : fX5_write x9 k9 v0 v1 v2 v3 M = some (r9, M9)) : Fn l x9 yX5_write cX5_write 4 (some .int) 1 23 [.ref v0, .int v1, .int v2, .int v3] M (some (.int r9)) M9 :=
  Fn.of (by decide +kernel) (Nat.le_of_ble_eq_true rfl) rfl (fun K _ hE => tX5_write_0 hE _ _ _ _ _ h)
