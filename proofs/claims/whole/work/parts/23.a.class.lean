/-! X2_init -/
def fX2_init (x9 : Cx) (k9 : Nat) (v0 : Nat) (M : Mm) : Option (Unit × Mm) :=
  if ¬ (5 : Int32) < 0 ∧ ((5 : Int32)).toNatClampNeg * 4 ≤ 536870912 ∧ mX M + 1 ≤ xC x9 ∧ mS M + ((5 : Int32)).toNatClampNeg ≤ xL x9 then if mK (nO M 8 ((5 : Int32)).toNatClampNeg ((5 : Int32)).toNatClampNeg) v0 = 3 then lt1 (sP (nO M 8 ((5 : Int32)).toNatClampNeg ((5 : Int32)).toNatClampNeg) v0 1 (some (mX M))) (fun M3 => if ¬ (20 : Int32) < 0 ∧ ((20 : Int32)).toNatClampNeg * 4 ≤ 536870912 ∧ mX M3 + 1 ≤ xC x9 ∧ mS M3 + ((20 : Int32)).toNatClampNeg ≤ xL x9 then if mK (nO M3 8 ((20 : Int32)).toNatClampNeg ((20 : Int32)).toNatClampNeg) v0 = 3 then lt1 (sP (nO M3 8 ((20 : Int32)).toNatClampNeg ((20 : Int32)).toNatClampNeg) v0 2 (some (mX M3))) (fun M7 => if ¬ (200 : Int32) < 0 ∧ ((200 : Int32)).toNatClampNeg * 4 ≤ 536870912 ∧ mX M7 + 1 ≤ xC x9 ∧ mS M7 + ((200 : Int32)).toNatClampNeg ≤ xL x9 then if mK (nO M7 8 ((200 : Int32)).toNatClampNeg ((200 : Int32)).toNatClampNeg) v0 = 3 then lt1 (sP (nO M7 8 ((200 : Int32)).toNatClampNeg ((200 : Int32)).toNatClampNeg) v0 3 (some (mX M7))) (fun M11 => some ((), M11)) else none else none) else none else none) else none else none
set_option maxRecDepth 100000 in
set_option maxHeartbeats 4000000 in
theorem tX2_init_0 {x9 : Cx} {K : Ct} {k9 : Nat} {M0 M9 : Mm} {r9 : Unit} (hE : Ce x9 K RX2 cX2_init 1 none 1 20 "<init>" M0) (v0 : Nat) (M : Mm) (h : fX2_init x9 k9 v0 M = some (r9, M9)) : Go x9 K 1 (Qf x9 K M0 none M9) 0 [(0, .ref v0)] [] M := by
  have hC := hE.1
  have hnm := hE.2.2.2.2.2.2.2.1
  unfold fX2_init at h
  refine go_aload_n hC dX2_init_0 rfl 0 rfl ?_
  refine go_objInit hE m_28 m_11 m_12 dX2_init_1 (by decide) (by decide) (by simp [Value.category]) ?_
  refine go_aload_n hC dX2_init_4 rfl 0 rfl ?_
  refine go_iconst hC dX2_init_5 (v := (5 : Int32)) (by decide +kernel) ?_
  obtain ⟨h1, h⟩ := os_1 h
  refine go_newI hE m_29 h1.1 h1.2.1 h1.2.2.1 h1.2.2.2 dX2_init_6 ?_
  obtain ⟨h2, h⟩ := os_1 h
  refine go_putR 1 hC h2 rfl rfl (C := RX2) (T := TX2) (N := 5) rfl inlX2 tyX2 tyX2_ok nmX2 (by decide) m_30 (Or.inl rfl) (Or.inr ⟨rfl, rfl, hnm⟩) (tyX2_ok 1 (by decide)) rfl rfl dX2_init_8 ?_
  obtain ⟨M3, e4, h⟩ := os_l h
  refine go_eq (pc' := 11) (st' := []) (M' := M3) (lv' := [(0, .ref v0)]) ?_ rfl rfl rfl e4
  refine go_aload_n hC dX2_init_11 rfl 0 rfl ?_
  refine go_bipush hC dX2_init_12 (v := (20 : Int32)) (by decide +kernel) ?_
  obtain ⟨h5, h⟩ := os_1 h
  refine go_newI hE m_29 h5.1 h5.2.1 h5.2.2.1 h5.2.2.2 dX2_init_14 ?_
  obtain ⟨h6, h⟩ := os_1 h
  refine go_putR 2 hC h6 rfl rfl (C := RX2) (T := TX2) (N := 5) rfl inlX2 tyX2 tyX2_ok nmX2 (by decide) m_31 (Or.inl rfl) (Or.inr ⟨rfl, rfl, hnm⟩) (tyX2_ok 2 (by decide)) rfl rfl dX2_init_16 ?_
  obtain ⟨M7, e8, h⟩ := os_l h
  refine go_eq (pc' := 19) (st' := []) (M' := M7) (lv' := [(0, .ref v0)]) ?_ rfl rfl rfl e8
  refine go_aload_n hC dX2_init_19 rfl 0 rfl ?_
  refine go_sipush hC dX2_init_20 (v := (200 : Int32)) (by decide +kernel) ?_
  obtain ⟨h9, h⟩ := os_1 h
  refine go_newI hE m_29 h9.1 h9.2.1 h9.2.2.1 h9.2.2.2 dX2_init_23 ?_
  obtain ⟨h10, h⟩ := os_1 h
  refine go_putR 3 hC h10 rfl rfl (C := RX2) (T := TX2) (N := 5) rfl inlX2 tyX2 tyX2_ok nmX2 (by decide) m_32 (Or.inl rfl) (Or.inr ⟨rfl, rfl, hnm⟩) (tyX2_ok 3 (by decide)) rfl rfl dX2_init_25 ?_
  obtain ⟨M11, e12, h⟩ := os_l h
  refine go_eq (pc' := 28) (st' := []) (M' := M11) (lv' := [(0, .ref v0)]) ?_ rfl rfl rfl e12
  cases h
  exact go_vret hE dX2_init_28
theorem c_X2_init (l : Launch) {x9 : Cx} {k9 : Nat} {M M9 : Mm} {r9 : Unit} {v0 : Nat} (h : fX2_init x9 k9 v0 M = some (r9, M9)) : Fn l x9 yX2_init cX2_init 1 none 1 20 [.ref v0] M none M9 :=
  Fn.of (by decide +kernel) (Nat.le_of_ble_eq_true rfl) rfl (fun K _ hE => tX2_init_0 hE _ _ h)
/-! X3_init -/
def fX3_init (x9 : Cx) (k9 : Nat) (v0 : Nat) (M : Mm) : Option (Unit × Mm) :=
  if ¬ (5 : Int32) < 0 ∧ ((5 : Int32)).toNatClampNeg * 4 ≤ 536870912 ∧ mX M + 1 ≤ xC x9 ∧ mS M + ((5 : Int32)).toNatClampNeg ≤ xL x9 then if mK (nO M 8 ((5 : Int32)).toNatClampNeg ((5 : Int32)).toNatClampNeg) v0 = 4 then lt1 (sP (nO M 8 ((5 : Int32)).toNatClampNeg ((5 : Int32)).toNatClampNeg) v0 4 (some (mX M))) (fun M3 => if ¬ (20 : Int32) < 0 ∧ ((20 : Int32)).toNatClampNeg * 4 ≤ 536870912 ∧ mX M3 + 1 ≤ xC x9 ∧ mS M3 + ((20 : Int32)).toNatClampNeg ≤ xL x9 then if mK (nO M3 8 ((20 : Int32)).toNatClampNeg ((20 : Int32)).toNatClampNeg) v0 = 4 then lt1 (sP (nO M3 8 ((20 : Int32)).toNatClampNeg ((20 : Int32)).toNatClampNeg) v0 6 (some (mX M3))) (fun M7 => if ¬ (20 : Int32) < 0 ∧ ((20 : Int32)).toNatClampNeg * 4 ≤ 536870912 ∧ mX M7 + 1 ≤ xC x9 ∧ mS M7 + ((20 : Int32)).toNatClampNeg ≤ xL x9 then if mK (nO M7 8 ((20 : Int32)).toNatClampNeg ((20 : Int32)).toNatClampNeg) v0 = 4 then lt1 (sP (nO M7 8 ((20 : Int32)).toNatClampNeg ((20 : Int32)).toNatClampNeg) v0 8 (some (mX M7))) (fun M11 => if ¬ (20 : Int32) < 0 ∧ ((20 : Int32)).toNatClampNeg * 4 ≤ 536870912 ∧ mX M11 + 1 ≤ xC x9 ∧ mS M11 + ((20 : Int32)).toNatClampNeg ≤ xL x9 then if mK (nO M11 8 ((20 : Int32)).toNatClampNeg ((20 : Int32)).toNatClampNeg) v0 = 4 then lt1 (sP (nO M11 8 ((20 : Int32)).toNatClampNeg ((20 : Int32)).toNatClampNeg) v0 9 (some (mX M11))) (fun M15 => some ((), M15)) else none else none) else none else none) else none else none) else none else none
set_option maxRecDepth 100000 in
set_option maxHeartbeats 4000000 in
theorem tX3_init_0 {x9 : Cx} {K : Ct} {k9 : Nat} {M0 M9 : Mm} {r9 : Unit} (hE : Ce x9 K RX3 cX3_init 1 none 1 20 "<init>" M0) (v0 : Nat) (M : Mm) (h : fX3_init x9 k9 v0 M = some (r9, M9)) : Go x9 K 1 (Qf x9 K M0 none M9) 0 [(0, .ref v0)] [] M := by
  have hC := hE.1
  have hnm := hE.2.2.2.2.2.2.2.1
  unfold fX3_init at h
  refine go_aload_n hC dX3_init_0 rfl 0 rfl ?_
  refine go_objInit hE m_162 m_11 m_12 dX3_init_1 (by decide) (by decide) (by simp [Value.category]) ?_
  refine go_aload_n hC dX3_init_4 rfl 0 rfl ?_
  refine go_iconst hC dX3_init_5 (v := (5 : Int32)) (by decide +kernel) ?_
  obtain ⟨h1, h⟩ := os_1 h
  refine go_newI hE m_29 h1.1 h1.2.1 h1.2.2.1 h1.2.2.2 dX3_init_6 ?_
  obtain ⟨h2, h⟩ := os_1 h
  refine go_putR 4 hC h2 rfl rfl (C := RX3) (T := TX3) (N := 16) rfl inlX3 tyX3 tyX3_ok nmX3 (by decide) m_163 (Or.inl rfl) (Or.inr ⟨rfl, rfl, hnm⟩) (tyX3_ok 4 (by decide)) rfl rfl dX3_init_8 ?_
  obtain ⟨M3, e4, h⟩ := os_l h
  refine go_eq (pc' := 11) (st' := []) (M' := M3) (lv' := [(0, .ref v0)]) ?_ rfl rfl rfl e4
  refine go_aload_n hC dX3_init_11 rfl 0 rfl ?_
  refine go_bipush hC dX3_init_12 (v := (20 : Int32)) (by decide +kernel) ?_
  obtain ⟨h5, h⟩ := os_1 h
  refine go_newI hE m_29 h5.1 h5.2.1 h5.2.2.1 h5.2.2.2 dX3_init_14 ?_
  obtain ⟨h6, h⟩ := os_1 h
  refine go_putR 6 hC h6 rfl rfl (C := RX3) (T := TX3) (N := 16) rfl inlX3 tyX3 tyX3_ok nmX3 (by decide) m_164 (Or.inl rfl) (Or.inr ⟨rfl, rfl, hnm⟩) (tyX3_ok 6 (by decide)) rfl rfl dX3_init_16 ?_
  obtain ⟨M7, e8, h⟩ := os_l h
  refine go_eq (pc' := 19) (st' := []) (M' := M7) (lv' := [(0, .ref v0)]) ?_ rfl rfl rfl e8
  refine go_aload_n hC dX3_init_19 rfl 0 rfl ?_
  refine go_bipush hC dX3_init_20 (v := (20 : Int32)) (by decide +kernel) ?_
  obtain ⟨h9, h⟩ := os_1 h
  refine go_newI hE m_29 h9.1 h9.2.1 h9.2.2.1 h9.2.2.2 dX3_init_22 ?_
  obtain ⟨h10, h⟩ := os_1 h
  refine go_putR 8 hC h10 rfl rfl (C := RX3) (T := TX3) (N := 16) rfl inlX3 tyX3 tyX3_ok nmX3 (by decide) m_165 (Or.inl rfl) (Or.inr ⟨rfl, rfl, hnm⟩) (tyX3_ok 8 (by decide)) rfl rfl dX3_init_24 ?_
  obtain ⟨M11, e12, h⟩ := os_l h
  refine go_eq (pc' := 27) (st' := []) (M' := M11) (lv' := [(0, .ref v0)]) ?_ rfl rfl rfl e12
  refine go_aload_n hC dX3_init_27 rfl 0 rfl ?_
  refine go_bipush hC dX3_init_28 (v := (20 : Int32)) (by decide +kernel) ?_
  obtain ⟨h13, h⟩ := os_1 h
  refine go_newI hE m_29 h13.1 h13.2.1 h13.2.2.1 h13.2.2.2 dX3_init_30 ?_
  obtain ⟨h14, h⟩ := os_1 h
  refine go_putR 9 hC h14 rfl rfl (C := RX3) (T := TX3) (N := 16) rfl inlX3 tyX3 tyX3_ok nmX3 (by decide) m_166 (Or.inl rfl) (Or.inr ⟨rfl, rfl, hnm⟩) (tyX3_ok 9 (by decide)) rfl rfl dX3_init_32 ?_
  obtain ⟨M15, e16, h⟩ := os_l h
  refine go_eq (pc' := 35) (st' := []) (M' := M15) (lv' := [(0, .ref v0)]) ?_ rfl rfl rfl e16
  cases h
  exact go_vret hE dX3_init_35
theorem c_X3_init (l : Launch) {x9 : Cx} {k9 : Nat} {M M9 : Mm} {r9 : Unit} {v0 : Nat} (h : fX3_init x9 k9 v0 M = some (r9, M9)) : Fn l x9 yX3_init cX3_init 1 none 1 20 [.ref v0] M none M9 :=
  Fn.of (by decide +kernel) (Nat.le_of_ble_eq_true rfl) rfl (fun K _ hE => tX3_init_0 hE _ _ h)
/-! X1_init -/
def fX1_init (x9 : Cx) (k9 : Nat) (v0 : Nat) (v1 : Int32) (v2 : Int32) (v3 : Int32) (v4 : Int32) (M : Mm) : Option (Unit × Mm) :=
  ob2 (fJxe7f93_init_da8c8 x9 k9 v0 M) (fun r1 M2 => if mK M2 v0 = 2 then if mK (sV M2 v0 0 v1) v0 = 2 then if mK (sV (sV M2 v0 0 v1) v0 1 v2) v0 = 2 then if mK (sV (sV (sV M2 v0 0 v1) v0 1 v2) v0 2 v3) v0 = 2 then some ((), (sV (sV (sV (sV M2 v0 0 v1) v0 1 v2) v0 2 v3) v0 3 v4)) else none else none else none else none)
set_option maxRecDepth 100000 in
set_option maxHeartbeats 4000000 in
theorem tX1_init_0 {x9 : Cx} {K : Ct} {k9 : Nat} {M0 M9 : Mm} {r9 : Unit} (hE : Ce x9 K RX1 cX1_init 5 none 2 40 "<init>" M0) (v0 : Nat) (v1 : Int32) (v2 : Int32) (v3 : Int32) (v4 : Int32) (M : Mm) (h : fX1_init x9 k9 v0 v1 v2 v3 v4 M = some (r9, M9)) : Go x9 K 5 (Qf x9 K M0 none M9) 0 [(0, .ref v0), (1, .int v1), (2, .int v2), (3, .int v3), (4, .int v4)] [] M := by
  have hC := hE.1
  have hnm := hE.2.2.2.2.2.2.2.1
  unfold fX1_init at h
  refine go_aload_n hC dX1_init_0 rfl 0 rfl ?_
  obtain ⟨r1, M2, h3, h⟩ := os_c h
  refine go_callI (bytes := cJxe7f93_init_da8c8) (maxL := 1) (n := 0) (As := []) (st := []) hE (c_Jxe7f93_init_da8c8 K.2.1 h3) (by unfold okY; decide +kernel) rfl (b := v0) m_464 m_461 m_462 rfl m_463 rfl (by simp [Value.category]) (by decide) (by decide) dX1_init_1 ?_
  refine go_eq (pc' := 4) (st' := []) (M' := M2) (lv' := [(0, .ref v0), (1, .int v1), (2, .int v2), (3, .int v3), (4, .int v4)]) ?_ rfl rfl rfl rfl
  refine go_aload_n hC dX1_init_4 rfl 0 rfl ?_
  refine go_iload_n hC dX1_init_5 rfl 1 rfl ?_
  obtain ⟨h5, h⟩ := os_1 h
  refine go_putV 0 hC h5 rfl rfl (C := RX1) (T := TX1) (N := 4) rfl inlX1 tyX1 tyX1_ok nmX1 (by decide) m_457 (Or.inl rfl) (Or.inr ⟨rfl, rfl, hnm⟩) (tyX1_ok 0 (by decide)) rfl rfl dX1_init_6 ?_
  refine go_aload_n hC dX1_init_9 rfl 0 rfl ?_
  refine go_iload_n hC dX1_init_10 rfl 2 rfl ?_
  obtain ⟨h6, h⟩ := os_1 h
  refine go_putV 1 hC h6 rfl rfl (C := RX1) (T := TX1) (N := 4) rfl inlX1 tyX1 tyX1_ok nmX1 (by decide) m_458 (Or.inl rfl) (Or.inr ⟨rfl, rfl, hnm⟩) (tyX1_ok 1 (by decide)) rfl rfl dX1_init_11 ?_
  refine go_aload_n hC dX1_init_14 rfl 0 rfl ?_
  refine go_iload_n hC dX1_init_15 rfl 3 rfl ?_
  obtain ⟨h7, h⟩ := os_1 h
  refine go_putV 2 hC h7 rfl rfl (C := RX1) (T := TX1) (N := 4) rfl inlX1 tyX1 tyX1_ok nmX1 (by decide) m_459 (Or.inl rfl) (Or.inr ⟨rfl, rfl, hnm⟩) (tyX1_ok 2 (by decide)) rfl rfl dX1_init_16 ?_
  refine go_aload_n hC dX1_init_19 rfl 0 rfl ?_
  refine go_iload hC dX1_init_20 4 rfl ?_
  obtain ⟨h8, h⟩ := os_1 h
  refine go_putV 3 hC h8 rfl rfl (C := RX1) (T := TX1) (N := 4) rfl inlX1 tyX1 tyX1_ok nmX1 (by decide) m_460 (Or.inl rfl) (Or.inr ⟨rfl, rfl, hnm⟩) (tyX1_ok 3 (by decide)) rfl rfl dX1_init_22 ?_
  cases h
  exact go_vret hE dX1_init_25
theorem c_X1_init (l : Launch) {x9 : Cx} {k9 : Nat} {M M9 : Mm} {r9 : Unit} {v0 : Nat} {v1 : Int32} {v2 : Int32} {v3 : Int32} {v4 : Int32} (h : fX1_init x9 k9 v0 v1 v2 v3 v4 M = some (r9, M9)) : Fn l x9 yX1_init cX1_init 5 none 2 40 [.ref v0, .int v1, .int v2, .int v3, .int v4] M none M9 :=
  Fn.of (by decide +kernel) (Nat.le_of_ble_eq_true rfl) rfl (fun K _ hE => tX1_init_0 hE _ _ _ _ _ _ h)
/-! X4_needArgument -/
def fX4_needArgument (x9 : Cx) (k9 : Nat) (v0 : Int32) (M : Mm) : Option ((Nat ⊕ Unit) × Mm) :=
  if v0 = 0 then if mX M + 1 ≤ xC x9 ∧ mS M + 6 ≤ xL x9 then some (.inl 1, M) else none else some (.inr (), M)
set_option maxRecDepth 100000 in
set_option maxHeartbeats 4000000 in
theorem tX4_needArgument_0 {x9 : Cx} {K : Ct} {k9 : Nat} {M0 M9 : Mm} {r9 : Unit} (hE : Ce x9 K RX4 cX4_needArgument 1 none 6 90 "needArgument" M0) (v0 : Int32) (M : Mm) (h : fX4_needArgument x9 k9 v0 M = some (.inr r9, M9)) : Go x9 K 1 (Qf x9 K M0 none M9) 0 [(0, .int v0)] [] M := by
  have hC := hE.1
  have hnm := hE.2.2.2.2.2.2.2.1
  unfold fX4_needArgument at h
  refine go_iload_n hC dX4_needArgument_0 rfl 0 rfl ?_
  refine go_if_ne (t := 14) hC dX4_needArgument_1 (by decide) (fun c1 => ?_) (fun c1 => ?_)
  · have h := os_f h c1
    cases h
    exact go_vret hE dX4_needArgument_14
  · have h := os_t h c1
    obtain ⟨h2, h⟩ := os_1 h
    cases h
theorem c_X4_needArgument (l : Launch) {x9 : Cx} {k9 : Nat} {M M9 : Mm} {r9 : Unit} {v0 : Int32} (h : fX4_needArgument x9 k9 v0 M = some (.inr r9, M9)) : Fn l x9 yX4_needArgument cX4_needArgument 1 none 6 90 [.int v0] M none M9 :=
  Fn.of (by decide +kernel) (Nat.le_of_ble_eq_true rfl) rfl (fun K _ hE => tX4_needArgument_0 hE _ _ h)
set_option maxRecDepth 100000 in
set_option maxHeartbeats 4000000 in
theorem uX4_needArgument_0 {x9 : Cx} {K : Ct} {k9 : Nat} {M0 M9 : Mm} {c9 : Nat} (hX : CeX x9 K RX4 cX4_needArgument 1 none 6 90 "needArgument" M0) (v0 : Int32) (M : Mm) (h : fX4_needArgument x9 k9 v0 M = some (.inl c9, M9)) : Go x9 K 1 (QX x9 K M0 c9 M9) 0 [(0, .int v0)] [] M := by
  have hE := hX.1
  have hC := hE.1
  unfold fX4_needArgument at h
  refine go_iload_n hC dX4_needArgument_0 rfl 0 rfl ?_
  refine go_if_ne (t := 14) hC dX4_needArgument_1 (by decide) (fun c1 => ?_) (fun c1 => ?_)
  · have h := os_f h c1
    cases h
  · have h := os_t h c1
    obtain ⟨h2, h⟩ := os_1 h
    cases h
    exact go_throw1 hX m_118 m_119 (fun s H h => h.2.2.2.2.2.2.2.2.2.1) h2 (by decide) (by decide) (by simp [Value.category]) dX4_needArgument_4 dX4_needArgument_7 dX4_needArgument_8 dX4_needArgument_10 dX4_needArgument_13
theorem cX_X4_needArgument (l : Launch) (hl : l.stackTraces = false) {x9 : Cx} {k9 : Nat} {M M9 : Mm} {c9 : Nat} {v0 : Int32} (h : fX4_needArgument x9 k9 v0 M = some (.inl c9, M9)) : FnX l x9 yX4_needArgument cX4_needArgument 1 none 6 90 [.int v0] M c9 M9 :=
  FnX.of hl (by decide +kernel) (Nat.le_of_ble_eq_true rfl) rfl (fun K _ hX => uX4_needArgument_0 hX _ _ h)
/-! X4_needState -/
def fX4_needState (x9 : Cx) (k9 : Nat) (v0 : Int32) (M : Mm) : Option ((Nat ⊕ Unit) × Mm) :=
  if v0 = 0 then if mX M + 1 ≤ xC x9 ∧ mS M + 6 ≤ xL x9 then some (.inl 2, M) else none else some (.inr (), M)
set_option maxRecDepth 100000 in
set_option maxHeartbeats 4000000 in
theorem tX4_needState_0 {x9 : Cx} {K : Ct} {k9 : Nat} {M0 M9 : Mm} {r9 : Unit} (hE : Ce x9 K RX4 cX4_needState 1 none 6 90 "needState" M0) (v0 : Int32) (M : Mm) (h : fX4_needState x9 k9 v0 M = some (.inr r9, M9)) : Go x9 K 1 (Qf x9 K M0 none M9) 0 [(0, .int v0)] [] M := by
  have hC := hE.1
  have hnm := hE.2.2.2.2.2.2.2.1
  unfold fX4_needState at h
  refine go_iload_n hC dX4_needState_0 rfl 0 rfl ?_
  refine go_if_ne (t := 15) hC dX4_needState_1 (by decide) (fun c1 => ?_) (fun c1 => ?_)
  · have h := os_f h c1
    cases h
    exact go_vret hE dX4_needState_15
  · have h := os_t h c1
    obtain ⟨h2, h⟩ := os_1 h
    cases h
theorem c_X4_needState (l : Launch) {x9 : Cx} {k9 : Nat} {M M9 : Mm} {r9 : Unit} {v0 : Int32} (h : fX4_needState x9 k9 v0 M = some (.inr r9, M9)) : Fn l x9 yX4_needState cX4_needState 1 none 6 90 [.int v0] M none M9 :=
  Fn.of (by decide +kernel) (Nat.le_of_ble_eq_true rfl) rfl (fun K _ hE => tX4_needState_0 hE _ _ h)
set_option maxRecDepth 100000 in
set_option maxHeartbeats 4000000 in
theorem uX4_needState_0 {x9 : Cx} {K : Ct} {k9 : Nat} {M0 M9 : Mm} {c9 : Nat} (hX : CeX x9 K RX4 cX4_needState 1 none 6 90 "needState" M0) (v0 : Int32) (M : Mm) (h : fX4_needState x9 k9 v0 M = some (.inl c9, M9)) : Go x9 K 1 (QX x9 K M0 c9 M9) 0 [(0, .int v0)] [] M := by
  have hE := hX.1
  have hC := hE.1
  unfold fX4_needState at h
  refine go_iload_n hC dX4_needState_0 rfl 0 rfl ?_
  refine go_if_ne (t := 15) hC dX4_needState_1 (by decide) (fun c1 => ?_) (fun c1 => ?_)
  · have h := os_f h c1
    cases h
  · have h := os_t h c1
    obtain ⟨h2, h⟩ := os_1 h
    cases h
    exact go_throw2 hX m_154 m_155 (fun s H h => h.2.2.2.2.2.2.2.2.2.2.1) h2 (by decide) (by decide) (by simp [Value.category]) dX4_needState_4 dX4_needState_7 dX4_needState_8 dX4_needState_11 dX4_needState_14
theorem cX_X4_needState (l : Launch) (hl : l.stackTraces = false) {x9 : Cx} {k9 : Nat} {M M9 : Mm} {c9 : Nat} {v0 : Int32} (h : fX4_needState x9 k9 v0 M = some (.inl c9, M9)) : FnX l x9 yX4_needState cX4_needState 1 none 6 90 [.int v0] M c9 M9 :=
  FnX.of hl (by decide +kernel) (Nat.le_of_ble_eq_true rfl) rfl (fun K _ hX => uX4_needState_0 hX _ _ h)
/-! X4_needSite -/
def fX4_needSite_17 (x9 : Cx) (k9 : Nat) (s0 : Int32) (M : Mm) : Option ((Nat ⊕ Unit) × Mm) :=
  obT (fX4_needArgument x9 k9 s0 M) (fun r1 M2 => some (.inr (), M2))
set_option maxRecDepth 100000 in
set_option maxHeartbeats 4000000 in
theorem tX4_needSite_17 {x9 : Cx} {K : Ct} {k9 : Nat} {M0 M9 : Mm} {r9 : Unit} (hE : Ce x9 K RX4 cX4_needSite 2 none 7 110 "needSite" M0) (s0 : Int32) (M : Mm) (h : fX4_needSite_17 x9 k9 s0 M = some (.inr r9, M9)) : Go x9 K 2 (Qf x9 K M0 none M9) 17 [] [.int s0] M := by
  have hC := hE.1
  have hnm := hE.2.2.2.2.2.2.2.1
  unfold fX4_needSite_17 at h
  obtain ⟨r1, M2, h3, h⟩ := os_TR h
  refine go_callS (bytes := cX4_needArgument) (maxL := 1) (ret := none) (n := 1) (As := [.int s0]) (st := []) hE (c_X4_needArgument K.2.1 h3) (by unfold okY; decide +kernel) rfl m_117 m_115 m_116 m_2 rfl (by simp [Value.category]) (by decide) (by decide) dX4_needSite_17 ?_
  refine go_eq (pc' := 20) (st' := []) (M' := M2) (lv' := []) ?_ rfl rfl rfl rfl
  cases h
  exact go_vret hE dX4_needSite_20
def fX4_needSite_16 (x9 : Cx) (k9 : Nat) (M : Mm) : Option ((Nat ⊕ Unit) × Mm) :=
  fX4_needSite_17 x9 k9 (0 : Int32) M
set_option maxRecDepth 100000 in
set_option maxHeartbeats 4000000 in
theorem tX4_needSite_16 {x9 : Cx} {K : Ct} {k9 : Nat} {M0 M9 : Mm} {r9 : Unit} (hE : Ce x9 K RX4 cX4_needSite 2 none 7 110 "needSite" M0) (M : Mm) (h : fX4_needSite_16 x9 k9 M = some (.inr r9, M9)) : Go x9 K 2 (Qf x9 K M0 none M9) 16 [] [] M := by
  have hC := hE.1
  have hnm := hE.2.2.2.2.2.2.2.1
  unfold fX4_needSite_16 at h
  refine go_iconst hC dX4_needSite_16 (v := (0 : Int32)) (by decide +kernel) ?_
  exact tX4_needSite_17 hE _ _ h
def fX4_needSite (x9 : Cx) (k9 : Nat) (v0 : Nat) (v1 : Int32) (M : Mm) : Option ((Nat ⊕ Unit) × Mm) :=
  if v1 < 0 then fX4_needSite_16 x9 k9 M else if mK M v0 = 5 then if (mV M v0 4) ≤ v1 then fX4_needSite_16 x9 k9 M else fX4_needSite_17 x9 k9 (1 : Int32) M else none
set_option maxRecDepth 100000 in
set_option maxHeartbeats 4000000 in
theorem tX4_needSite_0 {x9 : Cx} {K : Ct} {k9 : Nat} {M0 M9 : Mm} {r9 : Unit} (hE : Ce x9 K RX4 cX4_needSite 2 none 7 110 "needSite" M0) (v0 : Nat) (v1 : Int32) (M : Mm) (h : fX4_needSite x9 k9 v0 v1 M = some (.inr r9, M9)) : Go x9 K 2 (Qf x9 K M0 none M9) 0 [(0, .ref v0), (1, .int v1)] [] M := by
  have hC := hE.1
  have hnm := hE.2.2.2.2.2.2.2.1
  unfold fX4_needSite at h
  refine go_iload_n hC dX4_needSite_0 rfl 1 rfl ?_
  refine go_if_lt (t := 16) hC dX4_needSite_1 (by decide) (fun c1 => ?_) (fun c1 => ?_)
  · have h := os_t h c1
    refine go_sub (lv' := []) [] rfl ?_
    exact tX4_needSite_16 hE _ h
  · have h := os_f h c1
    refine go_iload_n hC dX4_needSite_4 rfl 1 rfl ?_
    refine go_aload_n hC dX4_needSite_5 rfl 0 rfl ?_
    obtain ⟨h2, h⟩ := os_1 h
    refine go_getV 4 hC h2 rfl rfl (C := RX4) (T := TX4) (N := 7) rfl inlX4 (by decide) m_55 (Or.inl rfl) dX4_needSite_6 ?_
    refine go_icmp_ge (t := 16) hC dX4_needSite_9 (by decide) (fun c3 => ?_) (fun c3 => ?_)
    · have h := os_t h c3
      refine go_sub (lv' := []) [] rfl ?_
      exact tX4_needSite_16 hE _ h
    · have h := os_f h c3
      refine go_iconst hC dX4_needSite_12 (v := (1 : Int32)) (by decide +kernel) ?_
      refine go_goto (t := 17) hC dX4_needSite_13 (by decide) ?_
      refine go_sub (lv' := []) [] rfl ?_
      exact tX4_needSite_17 hE _ _ h
theorem c_X4_needSite (l : Launch) {x9 : Cx} {k9 : Nat} {M M9 : Mm} {r9 : Unit} {v0 : Nat} {v1 : Int32} (h : fX4_needSite x9 k9 v0 v1 M = some (.inr r9, M9)) : Fn l x9 yX4_needSite cX4_needSite 2 none 7 110 [.ref v0, .int v1] M none M9 :=
  Fn.of (by decide +kernel) (Nat.le_of_ble_eq_true rfl) rfl (fun K _ hE => tX4_needSite_0 hE _ _ _ h)
set_option maxRecDepth 100000 in
set_option maxHeartbeats 4000000 in
theorem uX4_needSite_17 {x9 : Cx} {K : Ct} {k9 : Nat} {M0 M9 : Mm} {c9 : Nat} (hX : CeX x9 K RX4 cX4_needSite 2 none 7 110 "needSite" M0) (s0 : Int32) (M : Mm) (h : fX4_needSite_17 x9 k9 s0 M = some (.inl c9, M9)) : Go x9 K 2 (QX x9 K M0 c9 M9) 17 [] [.int s0] M := by
  have hE := hX.1
  have hC := hE.1
  unfold fX4_needSite_17 at h
  rcases os_TX h with h3 | ⟨r1, M2, h3, h⟩
  · exact go_callSX (bytes := cX4_needArgument) (maxL := 1) (ret := none) (n := 1) (As := [.int s0]) (st := []) hX (cX_X4_needArgument K.2.1 hX.2.2 h3) (by unfold okY; decide +kernel) rfl m_117 m_115 m_116 m_2 rfl (by simp [Value.category]) (by decide) (by decide) dX4_needSite_17
  refine go_callS (bytes := cX4_needArgument) (maxL := 1) (ret := none) (n := 1) (As := [.int s0]) (st := []) hE (c_X4_needArgument K.2.1 h3) (by unfold okY; decide +kernel) rfl m_117 m_115 m_116 m_2 rfl (by simp [Value.category]) (by decide) (by decide) dX4_needSite_17 ?_
  refine go_eq (pc' := 20) (st' := []) (M' := M2) (lv' := []) ?_ rfl rfl rfl rfl
  cases h
set_option maxRecDepth 100000 in
set_option maxHeartbeats 4000000 in
theorem uX4_needSite_16 {x9 : Cx} {K : Ct} {k9 : Nat} {M0 M9 : Mm} {c9 : Nat} (hX : CeX x9 K RX4 cX4_needSite 2 none 7 110 "needSite" M0) (M : Mm) (h : fX4_needSite_16 x9 k9 M = some (.inl c9, M9)) : Go x9 K 2 (QX x9 K M0 c9 M9) 16 [] [] M := by
  have hE := hX.1
  have hC := hE.1
  unfold fX4_needSite_16 at h
  refine go_iconst hC dX4_needSite_16 (v := (0 : Int32)) (by decide +kernel) ?_
  exact uX4_needSite_17 hX _ _ h
set_option maxRecDepth 100000 in
set_option maxHeartbeats 4000000 in
theorem uX4_needSite_0 {x9 : Cx} {K : Ct} {k9 : Nat} {M0 M9 : Mm} {c9 : Nat} (hX : CeX x9 K RX4 cX4_needSite 2 none 7 110 "needSite" M0) (v0 : Nat) (v1 : Int32) (M : Mm) (h : fX4_needSite x9 k9 v0 v1 M = some (.inl c9, M9)) : Go x9 K 2 (QX x9 K M0 c9 M9) 0 [(0, .ref v0), (1, .int v1)] [] M := by
  have hE := hX.1
  have hC := hE.1
  unfold fX4_needSite at h
  refine go_iload_n hC dX4_needSite_0 rfl 1 rfl ?_
  refine go_if_lt (t := 16) hC dX4_needSite_1 (by decide) (fun c1 => ?_) (fun c1 => ?_)
  · have h := os_t h c1
    refine go_sub (lv' := []) [] rfl ?_
    exact uX4_needSite_16 hX _ h
  · have h := os_f h c1
    refine go_iload_n hC dX4_needSite_4 rfl 1 rfl ?_
    refine go_aload_n hC dX4_needSite_5 rfl 0 rfl ?_
    obtain ⟨h2, h⟩ := os_1 h
    refine go_getV 4 hC h2 rfl rfl (C := RX4) (T := TX4) (N := 7) rfl inlX4 (by decide) m_55 (Or.inl rfl) dX4_needSite_6 ?_
    refine go_icmp_ge (t := 16) hC dX4_needSite_9 (by decide) (fun c3 => ?_) (fun c3 => ?_)
    · have h := os_t h c3
      refine go_sub (lv' := []) [] rfl ?_
      exact uX4_needSite_16 hX _ h
    · have h := os_f h c3
      refine go_iconst hC dX4_needSite_12 (v := (1 : Int32)) (by decide +kernel) ?_
      refine go_goto (t := 17) hC dX4_needSite_13 (by decide) ?_
      refine go_sub (lv' := []) [] rfl ?_
      exact uX4_needSite_17 hX _ _ h
theorem cX_X4_needSite (l : Launch) (hl : l.stackTraces = false) {x9 : Cx} {k9 : Nat} {M M9 : Mm} {c9 : Nat} {v0 : Nat} {v1 : Int32} (h : fX4_needSite x9 k9 v0 v1 M = some (.inl c9, M9)) : FnX l x9 yX4_needSite cX4_needSite 2 none 7 110 [.ref v0, .int v1] M c9 M9 :=
  FnX.of hl (by decide +kernel) (Nat.le_of_ble_eq_true rfl) rfl (fun K _ hX => uX4_needSite_0 hX _ _ _ h)
/-! X4_needTransaction -/
def fX4_needTransaction_17 (x9 : Cx) (k9 : Nat) (s0 : Int32) (M : Mm) : Option ((Nat ⊕ Unit) × Mm) :=
  obT (fX4_needArgument x9 k9 s0 M) (fun r1 M2 => some (.inr (), M2))
set_option maxRecDepth 100000 in
set_option maxHeartbeats 4000000 in
theorem tX4_needTransaction_17 {x9 : Cx} {K : Ct} {k9 : Nat} {M0 M9 : Mm} {r9 : Unit} (hE : Ce x9 K RX4 cX4_needTransaction 2 none 7 110 "needTransaction" M0) (s0 : Int32) (M : Mm) (h : fX4_needTransaction_17 x9 k9 s0 M = some (.inr r9, M9)) : Go x9 K 2 (Qf x9 K M0 none M9) 17 [] [.int s0] M := by
  have hC := hE.1
  have hnm := hE.2.2.2.2.2.2.2.1
  unfold fX4_needTransaction_17 at h
  obtain ⟨r1, M2, h3, h⟩ := os_TR h
  refine go_callS (bytes := cX4_needArgument) (maxL := 1) (ret := none) (n := 1) (As := [.int s0]) (st := []) hE (c_X4_needArgument K.2.1 h3) (by unfold okY; decide +kernel) rfl m_117 m_115 m_116 m_2 rfl (by simp [Value.category]) (by decide) (by decide) dX4_needTransaction_17 ?_
  refine go_eq (pc' := 20) (st' := []) (M' := M2) (lv' := []) ?_ rfl rfl rfl rfl
  cases h
  exact go_vret hE dX4_needTransaction_20
def fX4_needTransaction_16 (x9 : Cx) (k9 : Nat) (M : Mm) : Option ((Nat ⊕ Unit) × Mm) :=
  fX4_needTransaction_17 x9 k9 (0 : Int32) M
set_option maxRecDepth 100000 in
set_option maxHeartbeats 4000000 in
theorem tX4_needTransaction_16 {x9 : Cx} {K : Ct} {k9 : Nat} {M0 M9 : Mm} {r9 : Unit} (hE : Ce x9 K RX4 cX4_needTransaction 2 none 7 110 "needTransaction" M0) (M : Mm) (h : fX4_needTransaction_16 x9 k9 M = some (.inr r9, M9)) : Go x9 K 2 (Qf x9 K M0 none M9) 16 [] [] M := by
  have hC := hE.1
  have hnm := hE.2.2.2.2.2.2.2.1
  unfold fX4_needTransaction_16 at h
  refine go_iconst hC dX4_needTransaction_16 (v := (0 : Int32)) (by decide +kernel) ?_
  exact tX4_needTransaction_17 hE _ _ h
def fX4_needTransaction (x9 : Cx) (k9 : Nat) (v0 : Nat) (v1 : Int32) (M : Mm) : Option ((Nat ⊕ Unit) × Mm) :=
  if v1 < 0 then fX4_needTransaction_16 x9 k9 M else if mK M v0 = 5 then if (mV M v0 5) ≤ v1 then fX4_needTransaction_16 x9 k9 M else fX4_needTransaction_17 x9 k9 (1 : Int32) M else none
set_option maxRecDepth 100000 in
set_option maxHeartbeats 4000000 in
theorem tX4_needTransaction_0 {x9 : Cx} {K : Ct} {k9 : Nat} {M0 M9 : Mm} {r9 : Unit} (hE : Ce x9 K RX4 cX4_needTransaction 2 none 7 110 "needTransaction" M0) (v0 : Nat) (v1 : Int32) (M : Mm) (h : fX4_needTransaction x9 k9 v0 v1 M = some (.inr r9, M9)) : Go x9 K 2 (Qf x9 K M0 none M9) 0 [(0, .ref v0), (1, .int v1)] [] M := by
  have hC := hE.1
  have hnm := hE.2.2.2.2.2.2.2.1
  unfold fX4_needTransaction at h
  refine go_iload_n hC dX4_needTransaction_0 rfl 1 rfl ?_
  refine go_if_lt (t := 16) hC dX4_needTransaction_1 (by decide) (fun c1 => ?_) (fun c1 => ?_)
  · have h := os_t h c1
    refine go_sub (lv' := []) [] rfl ?_
    exact tX4_needTransaction_16 hE _ h
  · have h := os_f h c1
    refine go_iload_n hC dX4_needTransaction_4 rfl 1 rfl ?_
    refine go_aload_n hC dX4_needTransaction_5 rfl 0 rfl ?_
    obtain ⟨h2, h⟩ := os_1 h
    refine go_getV 5 hC h2 rfl rfl (C := RX4) (T := TX4) (N := 7) rfl inlX4 (by decide) m_56 (Or.inl rfl) dX4_needTransaction_6 ?_
    refine go_icmp_ge (t := 16) hC dX4_needTransaction_9 (by decide) (fun c3 => ?_) (fun c3 => ?_)
    · have h := os_t h c3
      refine go_sub (lv' := []) [] rfl ?_
      exact tX4_needTransaction_16 hE _ h
    · have h := os_f h c3
      refine go_iconst hC dX4_needTransaction_12 (v := (1 : Int32)) (by decide +kernel) ?_
      refine go_goto (t := 17) hC dX4_needTransaction_13 (by decide) ?_
      refine go_sub (lv' := []) [] rfl ?_
      exact tX4_needTransaction_17 hE _ _ h
theorem c_X4_needTransaction (l : Launch) {x9 : Cx} {k9 : Nat} {M M9 : Mm} {r9 : Unit} {v0 : Nat} {v1 : Int32} (h : fX4_needTransaction x9 k9 v0 v1 M = some (.inr r9, M9)) : Fn l x9 yX4_needTransaction cX4_needTransaction 2 none 7 110 [.ref v0, .int v1] M none M9 :=
  Fn.of (by decide +kernel) (Nat.le_of_ble_eq_true rfl) rfl (fun K _ hE => tX4_needTransaction_0 hE _ _ _ h)
set_option maxRecDepth 100000 in
set_option maxHeartbeats 4000000 in
theorem uX4_needTransaction_17 {x9 : Cx} {K : Ct} {k9 : Nat} {M0 M9 : Mm} {c9 : Nat} (hX : CeX x9 K RX4 cX4_needTransaction 2 none 7 110 "needTransaction" M0) (s0 : Int32) (M : Mm) (h : fX4_needTransaction_17 x9 k9 s0 M = some (.inl c9, M9)) : Go x9 K 2 (QX x9 K M0 c9 M9) 17 [] [.int s0] M := by
  have hE := hX.1
  have hC := hE.1
  unfold fX4_needTransaction_17 at h
  rcases os_TX h with h3 | ⟨r1, M2, h3, h⟩
  · exact go_callSX (bytes := cX4_needArgument) (maxL := 1) (ret := none) (n := 1) (As := [.int s0]) (st := []) hX (cX_X4_needArgument K.2.1 hX.2.2 h3) (by unfold okY; decide +kernel) rfl m_117 m_115 m_116 m_2 rfl (by simp [Value.category]) (by decide) (by decide) dX4_needTransaction_17
  refine go_callS (bytes := cX4_needArgument) (maxL := 1) (ret := none) (n := 1) (As := [.int s0]) (st := []) hE (c_X4_needArgument K.2.1 h3) (by unfold okY; decide +kernel) rfl m_117 m_115 m_116 m_2 rfl (by simp [Value.category]) (by decide) (by decide) dX4_needTransaction_17 ?_
  refine go_eq (pc' := 20) (st' := []) (M' := M2) (lv' := []) ?_ rfl rfl rfl rfl
  cases h
set_option maxRecDepth 100000 in
set_option maxHeartbeats 4000000 in
theorem uX4_needTransaction_16 {x9 : Cx} {K : Ct} {k9 : Nat} {M0 M9 : Mm} {c9 : Nat} (hX : CeX x9 K RX4 cX4_needTransaction 2 none 7 110 "needTransaction" M0) (M : Mm) (h : fX4_needTransaction_16 x9 k9 M = some (.inl c9, M9)) : Go x9 K 2 (QX x9 K M0 c9 M9) 16 [] [] M := by
  have hE := hX.1
  have hC := hE.1
  unfold fX4_needTransaction_16 at h
  refine go_iconst hC dX4_needTransaction_16 (v := (0 : Int32)) (by decide +kernel) ?_
  exact uX4_needTransaction_17 hX _ _ h
set_option maxRecDepth 100000 in
set_option maxHeartbeats 4000000 in
theorem uX4_needTransaction_0 {x9 : Cx} {K : Ct} {k9 : Nat} {M0 M9 : Mm} {c9 : Nat} (hX : CeX x9 K RX4 cX4_needTransaction 2 none 7 110 "needTransaction" M0) (v0 : Nat) (v1 : Int32) (M : Mm) (h : fX4_needTransaction x9 k9 v0 v1 M = some (.inl c9, M9)) : Go x9 K 2 (QX x9 K M0 c9 M9) 0 [(0, .ref v0), (1, .int v1)] [] M := by
  have hE := hX.1
  have hC := hE.1
  unfold fX4_needTransaction at h
  refine go_iload_n hC dX4_needTransaction_0 rfl 1 rfl ?_
  refine go_if_lt (t := 16) hC dX4_needTransaction_1 (by decide) (fun c1 => ?_) (fun c1 => ?_)
  · have h := os_t h c1
    refine go_sub (lv' := []) [] rfl ?_
    exact uX4_needTransaction_16 hX _ h
  · have h := os_f h c1
    refine go_iload_n hC dX4_needTransaction_4 rfl 1 rfl ?_
    refine go_aload_n hC dX4_needTransaction_5 rfl 0 rfl ?_
    obtain ⟨h2, h⟩ := os_1 h
    refine go_getV 5 hC h2 rfl rfl (C := RX4) (T := TX4) (N := 7) rfl inlX4 (by decide) m_56 (Or.inl rfl) dX4_needTransaction_6 ?_
    refine go_icmp_ge (t := 16) hC dX4_needTransaction_9 (by decide) (fun c3 => ?_) (fun c3 => ?_)
    · have h := os_t h c3
      refine go_sub (lv' := []) [] rfl ?_
      exact uX4_needTransaction_16 hX _ h
    · have h := os_f h c3
      refine go_iconst hC dX4_needTransaction_12 (v := (1 : Int32)) (by decide +kernel) ?_
      refine go_goto (t := 17) hC dX4_needTransaction_13 (by decide) ?_
      refine go_sub (lv' := []) [] rfl ?_
      exact uX4_needTransaction_17 hX _ _ h
theorem cX_X4_needTransaction (l : Launch) (hl : l.stackTraces = false) {x9 : Cx} {k9 : Nat} {M M9 : Mm} {c9 : Nat} {v0 : Nat} {v1 : Int32} (h : fX4_needTransaction x9 k9 v0 v1 M = some (.inl c9, M9)) : FnX l x9 yX4_needTransaction cX4_needTransaction 2 none 7 110 [.ref v0, .int v1] M c9 M9 :=
  FnX.of hl (by decide +kernel) (Nat.le_of_ble_eq_true rfl) rfl (fun K _ hX => uX4_needTransaction_0 hX _ _ _ h)
/-! X4_needObject -/
def fX4_needObject_15 (x9 : Cx) (k9 : Nat) (s0 : Int32) (M : Mm) : Option ((Nat ⊕ Unit) × Mm) :=
  obT (fX4_needArgument x9 k9 s0 M) (fun r1 M2 => some (.inr (), M2))
set_option maxRecDepth 100000 in
set_option maxHeartbeats 4000000 in
theorem tX4_needObject_15 {x9 : Cx} {K : Ct} {k9 : Nat} {M0 M9 : Mm} {r9 : Unit} (hE : Ce x9 K RX4 cX4_needObject 1 none 7 110 "needObject" M0) (s0 : Int32) (M : Mm) (h : fX4_needObject_15 x9 k9 s0 M = some (.inr r9, M9)) : Go x9 K 1 (Qf x9 K M0 none M9) 15 [] [.int s0] M := by
  have hC := hE.1
  have hnm := hE.2.2.2.2.2.2.2.1
  unfold fX4_needObject_15 at h
  obtain ⟨r1, M2, h3, h⟩ := os_TR h
  refine go_callS (bytes := cX4_needArgument) (maxL := 1) (ret := none) (n := 1) (As := [.int s0]) (st := []) hE (c_X4_needArgument K.2.1 h3) (by unfold okY; decide +kernel) rfl m_117 m_115 m_116 m_2 rfl (by simp [Value.category]) (by decide) (by decide) dX4_needObject_15 ?_
  refine go_eq (pc' := 18) (st' := []) (M' := M2) (lv' := []) ?_ rfl rfl rfl rfl
  cases h
  exact go_vret hE dX4_needObject_18
def fX4_needObject_14 (x9 : Cx) (k9 : Nat) (M : Mm) : Option ((Nat ⊕ Unit) × Mm) :=
  fX4_needObject_15 x9 k9 (0 : Int32) M
set_option maxRecDepth 100000 in
set_option maxHeartbeats 4000000 in
theorem tX4_needObject_14 {x9 : Cx} {K : Ct} {k9 : Nat} {M0 M9 : Mm} {r9 : Unit} (hE : Ce x9 K RX4 cX4_needObject 1 none 7 110 "needObject" M0) (M : Mm) (h : fX4_needObject_14 x9 k9 M = some (.inr r9, M9)) : Go x9 K 1 (Qf x9 K M0 none M9) 14 [] [] M := by
  have hC := hE.1
  have hnm := hE.2.2.2.2.2.2.2.1
  unfold fX4_needObject_14 at h
  refine go_iconst hC dX4_needObject_14 (v := (0 : Int32)) (by decide +kernel) ?_
  exact tX4_needObject_15 hE _ _ h
def fX4_needObject (x9 : Cx) (k9 : Nat) (v0 : Int32) (M : Mm) : Option ((Nat ⊕ Unit) × Mm) :=
  if v0 < 0 then fX4_needObject_14 x9 k9 M else if (20 : Int32) ≤ v0 then fX4_needObject_14 x9 k9 M else fX4_needObject_15 x9 k9 (1 : Int32) M
set_option maxRecDepth 100000 in
set_option maxHeartbeats 4000000 in
theorem tX4_needObject_0 {x9 : Cx} {K : Ct} {k9 : Nat} {M0 M9 : Mm} {r9 : Unit} (hE : Ce x9 K RX4 cX4_needObject 1 none 7 110 "needObject" M0) (v0 : Int32) (M : Mm) (h : fX4_needObject x9 k9 v0 M = some (.inr r9, M9)) : Go x9 K 1 (Qf x9 K M0 none M9) 0 [(0, .int v0)] [] M := by
  have hC := hE.1
  have hnm := hE.2.2.2.2.2.2.2.1
  unfold fX4_needObject at h
  refine go_iload_n hC dX4_needObject_0 rfl 0 rfl ?_
  refine go_if_lt (t := 14) hC dX4_needObject_1 (by decide) (fun c1 => ?_) (fun c1 => ?_)
  · have h := os_t h c1
    refine go_sub (lv' := []) [] rfl ?_
    exact tX4_needObject_14 hE _ h
  · have h := os_f h c1
    refine go_iload_n hC dX4_needObject_4 rfl 0 rfl ?_
    refine go_bipush hC dX4_needObject_5 (v := (20 : Int32)) (by decide +kernel) ?_
    refine go_icmp_ge (t := 14) hC dX4_needObject_7 (by decide) (fun c2 => ?_) (fun c2 => ?_)
    · have h := os_t h c2
      refine go_sub (lv' := []) [] rfl ?_
      exact tX4_needObject_14 hE _ h
    · have h := os_f h c2
      refine go_iconst hC dX4_needObject_10 (v := (1 : Int32)) (by decide +kernel) ?_
      refine go_goto (t := 15) hC dX4_needObject_11 (by decide) ?_
      refine go_sub (lv' := []) [] rfl ?_
      exact tX4_needObject_15 hE _ _ h
theorem c_X4_needObject (l : Launch) {x9 : Cx} {k9 : Nat} {M M9 : Mm} {r9 : Unit} {v0 : Int32} (h : fX4_needObject x9 k9 v0 M = some (.inr r9, M9)) : Fn l x9 yX4_needObject cX4_needObject 1 none 7 110 [.int v0] M none M9 :=
  Fn.of (by decide +kernel) (Nat.le_of_ble_eq_true rfl) rfl (fun K _ hE => tX4_needObject_0 hE _ _ h)
set_option maxRecDepth 100000 in
set_option maxHeartbeats 4000000 in
theorem uX4_needObject_15 {x9 : Cx} {K : Ct} {k9 : Nat} {M0 M9 : Mm} {c9 : Nat} (hX : CeX x9 K RX4 cX4_needObject 1 none 7 110 "needObject" M0) (s0 : Int32) (M : Mm) (h : fX4_needObject_15 x9 k9 s0 M = some (.inl c9, M9)) : Go x9 K 1 (QX x9 K M0 c9 M9) 15 [] [.int s0] M := by
  have hE := hX.1
  have hC := hE.1
  unfold fX4_needObject_15 at h
  rcases os_TX h with h3 | ⟨r1, M2, h3, h⟩
  · exact go_callSX (bytes := cX4_needArgument) (maxL := 1) (ret := none) (n := 1) (As := [.int s0]) (st := []) hX (cX_X4_needArgument K.2.1 hX.2.2 h3) (by unfold okY; decide +kernel) rfl m_117 m_115 m_116 m_2 rfl (by simp [Value.category]) (by decide) (by decide) dX4_needObject_15
  refine go_callS (bytes := cX4_needArgument) (maxL := 1) (ret := none) (n := 1) (As := [.int s0]) (st := []) hE (c_X4_needArgument K.2.1 h3) (by unfold okY; decide +kernel) rfl m_117 m_115 m_116 m_2 rfl (by simp [Value.category]) (by decide) (by decide) dX4_needObject_15 ?_
  refine go_eq (pc' := 18) (st' := []) (M' := M2) (lv' := []) ?_ rfl rfl rfl rfl
  cases h
set_option maxRecDepth 100000 in
set_option maxHeartbeats 4000000 in
theorem uX4_needObject_14 {x9 : Cx} {K : Ct} {k9 : Nat} {M0 M9 : Mm} {c9 : Nat} (hX : CeX x9 K RX4 cX4_needObject 1 none 7 110 "needObject" M0) (M : Mm) (h : fX4_needObject_14 x9 k9 M = some (.inl c9, M9)) : Go x9 K 1 (QX x9 K M0 c9 M9) 14 [] [] M := by
  have hE := hX.1
  have hC := hE.1
  unfold fX4_needObject_14 at h
  refine go_iconst hC dX4_needObject_14 (v := (0 : Int32)) (by decide +kernel) ?_
  exact uX4_needObject_15 hX _ _ h
set_option maxRecDepth 100000 in
set_option maxHeartbeats 4000000 in
theorem uX4_needObject_0 {x9 : Cx} {K : Ct} {k9 : Nat} {M0 M9 : Mm} {c9 : Nat} (hX : CeX x9 K RX4 cX4_needObject 1 none 7 110 "needObject" M0) (v0 : Int32) (M : Mm) (h : fX4_needObject x9 k9 v0 M = some (.inl c9, M9)) : Go x9 K 1 (QX x9 K M0 c9 M9) 0 [(0, .int v0)] [] M := by
  have hE := hX.1
  have hC := hE.1
  unfold fX4_needObject at h
  refine go_iload_n hC dX4_needObject_0 rfl 0 rfl ?_
  refine go_if_lt (t := 14) hC dX4_needObject_1 (by decide) (fun c1 => ?_) (fun c1 => ?_)
  · have h := os_t h c1
    refine go_sub (lv' := []) [] rfl ?_
    exact uX4_needObject_14 hX _ h
  · have h := os_f h c1
    refine go_iload_n hC dX4_needObject_4 rfl 0 rfl ?_
    refine go_bipush hC dX4_needObject_5 (v := (20 : Int32)) (by decide +kernel) ?_
    refine go_icmp_ge (t := 14) hC dX4_needObject_7 (by decide) (fun c2 => ?_) (fun c2 => ?_)
    · have h := os_t h c2
      refine go_sub (lv' := []) [] rfl ?_
      exact uX4_needObject_14 hX _ h
    · have h := os_f h c2
      refine go_iconst hC dX4_needObject_10 (v := (1 : Int32)) (by decide +kernel) ?_
      refine go_goto (t := 15) hC dX4_needObject_11 (by decide) ?_
      refine go_sub (lv' := []) [] rfl ?_
      exact uX4_needObject_15 hX _ _ h
theorem cX_X4_needObject (l : Launch) (hl : l.stackTraces = false) {x9 : Cx} {k9 : Nat} {M M9 : Mm} {c9 : Nat} {v0 : Int32} (h : fX4_needObject x9 k9 v0 M = some (.inl c9, M9)) : FnX l x9 yX4_needObject cX4_needObject 1 none 7 110 [.int v0] M c9 M9 :=
  FnX.of hl (by decide +kernel) (Nat.le_of_ble_eq_true rfl) rfl (fun K _ hX => uX4_needObject_0 hX _ _ h)
/-! X4_needGoingOn -/
def fX4_needGoingOn_12 (x9 : Cx) (k9 : Nat) (s0 : Int32) (M : Mm) : Option ((Nat ⊕ Unit) × Mm) :=
  obT (fX4_needState x9 k9 s0 M) (fun r1 M2 => some (.inr (), M2))
set_option maxRecDepth 100000 in
set_option maxHeartbeats 4000000 in
theorem tX4_needGoingOn_12 {x9 : Cx} {K : Ct} {k9 : Nat} {M0 M9 : Mm} {r9 : Unit} (hE : Ce x9 K RX4 cX4_needGoingOn 1 none 7 110 "needGoingOn" M0) (s0 : Int32) (M : Mm) (h : fX4_needGoingOn_12 x9 k9 s0 M = some (.inr r9, M9)) : Go x9 K 1 (Qf x9 K M0 none M9) 12 [] [.int s0] M := by
  have hC := hE.1
  have hnm := hE.2.2.2.2.2.2.2.1
  unfold fX4_needGoingOn_12 at h
  obtain ⟨r1, M2, h3, h⟩ := os_TR h
  refine go_callS (bytes := cX4_needState) (maxL := 1) (ret := none) (n := 1) (As := [.int s0]) (st := []) hE (c_X4_needState K.2.1 h3) (by unfold okY; decide +kernel) rfl m_153 m_151 m_152 m_2 rfl (by simp [Value.category]) (by decide) (by decide) dX4_needGoingOn_12 ?_
  refine go_eq (pc' := 15) (st' := []) (M' := M2) (lv' := []) ?_ rfl rfl rfl rfl
  cases h
  exact go_vret hE dX4_needGoingOn_15
def fX4_needGoingOn (x9 : Cx) (k9 : Nat) (v0 : Nat) (M : Mm) : Option ((Nat ⊕ Unit) × Mm) :=
  if mK M v0 = 4 then if (mV M v0 2) = 0 then fX4_needGoingOn_12 x9 k9 (1 : Int32) M else fX4_needGoingOn_12 x9 k9 (0 : Int32) M else none
set_option maxRecDepth 100000 in
set_option maxHeartbeats 4000000 in
theorem tX4_needGoingOn_0 {x9 : Cx} {K : Ct} {k9 : Nat} {M0 M9 : Mm} {r9 : Unit} (hE : Ce x9 K RX4 cX4_needGoingOn 1 none 7 110 "needGoingOn" M0) (v0 : Nat) (M : Mm) (h : fX4_needGoingOn x9 k9 v0 M = some (.inr r9, M9)) : Go x9 K 1 (Qf x9 K M0 none M9) 0 [(0, .ref v0)] [] M := by
  have hC := hE.1
  have hnm := hE.2.2.2.2.2.2.2.1
  unfold fX4_needGoingOn at h
  refine go_aload_n hC dX4_needGoingOn_0 rfl 0 rfl ?_
  obtain ⟨h1, h⟩ := os_1 h
  refine go_getV 2 hC h1 rfl rfl (C := RX3) (T := TX3) (N := 16) rfl inlX3 (by decide) m_277 (Or.inl rfl) dX4_needGoingOn_1 ?_
  refine go_if_ne (t := 11) hC dX4_needGoingOn_4 (by decide) (fun c2 => ?_) (fun c2 => ?_)
  · have h := os_f h c2
    refine go_iconst hC dX4_needGoingOn_11 (v := (0 : Int32)) (by decide +kernel) ?_
    refine go_sub (lv' := []) [] rfl ?_
    exact tX4_needGoingOn_12 hE _ _ h
  · have h := os_t h c2
    refine go_iconst hC dX4_needGoingOn_7 (v := (1 : Int32)) (by decide +kernel) ?_
    refine go_goto (t := 12) hC dX4_needGoingOn_8 (by decide) ?_
    refine go_sub (lv' := []) [] rfl ?_
    exact tX4_needGoingOn_12 hE _ _ h
theorem c_X4_needGoingOn (l : Launch) {x9 : Cx} {k9 : Nat} {M M9 : Mm} {r9 : Unit} {v0 : Nat} (h : fX4_needGoingOn x9 k9 v0 M = some (.inr r9, M9)) : Fn l x9 yX4_needGoingOn cX4_needGoingOn 1 none 7 110 [.ref v0] M none M9 :=
  Fn.of (by decide +kernel) (Nat.le_of_ble_eq_true rfl) rfl (fun K _ hE => tX4_needGoingOn_0 hE _ _ h)
set_option maxRecDepth 100000 in
set_option maxHeartbeats 4000000 in
theorem uX4_needGoingOn_12 {x9 : Cx} {K : Ct} {k9 : Nat} {M0 M9 : Mm} {c9 : Nat} (hX : CeX x9 K RX4 cX4_needGoingOn 1 none 7 110 "needGoingOn" M0) (s0 : Int32) (M : Mm) (h : fX4_needGoingOn_12 x9 k9 s0 M = some (.inl c9, M9)) : Go x9 K 1 (QX x9 K M0 c9 M9) 12 [] [.int s0] M := by
  have hE := hX.1
  have hC := hE.1
  unfold fX4_needGoingOn_12 at h
  rcases os_TX h with h3 | ⟨r1, M2, h3, h⟩
  · exact go_callSX (bytes := cX4_needState) (maxL := 1) (ret := none) (n := 1) (As := [.int s0]) (st := []) hX (cX_X4_needState K.2.1 hX.2.2 h3) (by unfold okY; decide +kernel) rfl m_153 m_151 m_152 m_2 rfl (by simp [Value.category]) (by decide) (by decide) dX4_needGoingOn_12
  refine go_callS (bytes := cX4_needState) (maxL := 1) (ret := none) (n := 1) (As := [.int s0]) (st := []) hE (c_X4_needState K.2.1 h3) (by unfold okY; decide +kernel) rfl m_153 m_151 m_152 m_2 rfl (by simp [Value.category]) (by decide) (by decide) dX4_needGoingOn_12 ?_
  refine go_eq (pc' := 15) (st' := []) (M' := M2) (lv' := []) ?_ rfl rfl rfl rfl
  cases h
set_option maxRecDepth 100000 in
set_option maxHeartbeats 4000000 in
theorem uX4_needGoingOn_0 {x9 : Cx} {K : Ct} {k9 : Nat} {M0 M9 : Mm} {c9 : Nat} (hX : CeX x9 K RX4 cX4_needGoingOn 1 none 7 110 "needGoingOn" M0) (v0 : Nat) (M : Mm) (h : fX4_needGoingOn x9 k9 v0 M = some (.inl c9, M9)) : Go x9 K 1 (QX x9 K M0 c9 M9) 0 [(0, .ref v0)] [] M := by
  have hE := hX.1
  have hC := hE.1
  unfold fX4_needGoingOn at h
  refine go_aload_n hC dX4_needGoingOn_0 rfl 0 rfl ?_
  obtain ⟨h1, h⟩ := os_1 h
  refine go_getV 2 hC h1 rfl rfl (C := RX3) (T := TX3) (N := 16) rfl inlX3 (by decide) m_277 (Or.inl rfl) dX4_needGoingOn_1 ?_
  refine go_if_ne (t := 11) hC dX4_needGoingOn_4 (by decide) (fun c2 => ?_) (fun c2 => ?_)
  · have h := os_f h c2
    refine go_iconst hC dX4_needGoingOn_11 (v := (0 : Int32)) (by decide +kernel) ?_
    refine go_sub (lv' := []) [] rfl ?_
    exact uX4_needGoingOn_12 hX _ _ h
  · have h := os_t h c2
    refine go_iconst hC dX4_needGoingOn_7 (v := (1 : Int32)) (by decide +kernel) ?_
    refine go_goto (t := 12) hC dX4_needGoingOn_8 (by decide) ?_
    refine go_sub (lv' := []) [] rfl ?_
    exact uX4_needGoingOn_12 hX _ _ h
theorem cX_X4_needGoingOn (l : Launch) (hl : l.stackTraces = false) {x9 : Cx} {k9 : Nat} {M M9 : Mm} {c9 : Nat} {v0 : Nat} (h : fX4_needGoingOn x9 k9 v0 M = some (.inl c9, M9)) : FnX l x9 yX4_needGoingOn cX4_needGoingOn 1 none 7 110 [.ref v0] M c9 M9 :=
  FnX.of hl (by decide +kernel) (Nat.le_of_ble_eq_true rfl) rfl (fun K _ hX => uX4_needGoingOn_0 hX _ _ h)
/-! X4_needElement -/
def fX4_needElement_24 (x9 : Cx) (k9 : Nat) (s0 : Int32) (M : Mm) : Option ((Nat ⊕ Unit) × Mm) :=
  obT (fX4_needArgument x9 k9 s0 M) (fun r1 M2 => some (.inr (), M2))
set_option maxRecDepth 100000 in
set_option maxHeartbeats 4000000 in
theorem tX4_needElement_24 {x9 : Cx} {K : Ct} {k9 : Nat} {M0 M9 : Mm} {r9 : Unit} (hE : Ce x9 K RX4 cX4_needElement 2 none 7 110 "needElement" M0) (s0 : Int32) (M : Mm) (h : fX4_needElement_24 x9 k9 s0 M = some (.inr r9, M9)) : Go x9 K 2 (Qf x9 K M0 none M9) 24 [] [.int s0] M := by
  have hC := hE.1
  have hnm := hE.2.2.2.2.2.2.2.1
  unfold fX4_needElement_24 at h
  obtain ⟨r1, M2, h3, h⟩ := os_TR h
  refine go_callS (bytes := cX4_needArgument) (maxL := 1) (ret := none) (n := 1) (As := [.int s0]) (st := []) hE (c_X4_needArgument K.2.1 h3) (by unfold okY; decide +kernel) rfl m_117 m_115 m_116 m_2 rfl (by simp [Value.category]) (by decide) (by decide) dX4_needElement_24 ?_
  refine go_eq (pc' := 27) (st' := []) (M' := M2) (lv' := []) ?_ rfl rfl rfl rfl
  cases h
  exact go_vret hE dX4_needElement_27
def fX4_needElement_23 (x9 : Cx) (k9 : Nat) (M : Mm) : Option ((Nat ⊕ Unit) × Mm) :=
  fX4_needElement_24 x9 k9 (0 : Int32) M
set_option maxRecDepth 100000 in
set_option maxHeartbeats 4000000 in
theorem tX4_needElement_23 {x9 : Cx} {K : Ct} {k9 : Nat} {M0 M9 : Mm} {r9 : Unit} (hE : Ce x9 K RX4 cX4_needElement 2 none 7 110 "needElement" M0) (M : Mm) (h : fX4_needElement_23 x9 k9 M = some (.inr r9, M9)) : Go x9 K 2 (Qf x9 K M0 none M9) 23 [] [] M := by
  have hC := hE.1
  have hnm := hE.2.2.2.2.2.2.2.1
  unfold fX4_needElement_23 at h
  refine go_iconst hC dX4_needElement_23 (v := (0 : Int32)) (by decide +kernel) ?_
  exact tX4_needElement_24 hE _ _ h
def fX4_needElement (x9 : Cx) (k9 : Nat) (v0 : Int32) (v1 : Int32) (M : Mm) : Option ((Nat ⊕ Unit) × Mm) :=
  if v0 < 0 then fX4_needElement_23 x9 k9 M else if (5 : Int32) ≤ v0 then fX4_needElement_23 x9 k9 M else if v1 < 0 then fX4_needElement_23 x9 k9 M else if (8 : Int32) ≤ v1 then fX4_needElement_23 x9 k9 M else fX4_needElement_24 x9 k9 (1 : Int32) M
set_option maxRecDepth 100000 in
set_option maxHeartbeats 4000000 in
theorem tX4_needElement_0 {x9 : Cx} {K : Ct} {k9 : Nat} {M0 M9 : Mm} {r9 : Unit} (hE : Ce x9 K RX4 cX4_needElement 2 none 7 110 "needElement" M0) (v0 : Int32) (v1 : Int32) (M : Mm) (h : fX4_needElement x9 k9 v0 v1 M = some (.inr r9, M9)) : Go x9 K 2 (Qf x9 K M0 none M9) 0 [(0, .int v0), (1, .int v1)] [] M := by
  have hC := hE.1
  have hnm := hE.2.2.2.2.2.2.2.1
  unfold fX4_needElement at h
  refine go_iload_n hC dX4_needElement_0 rfl 0 rfl ?_
  refine go_if_lt (t := 23) hC dX4_needElement_1 (by decide) (fun c1 => ?_) (fun c1 => ?_)
  · have h := os_t h c1
    refine go_sub (lv' := []) [] rfl ?_
    exact tX4_needElement_23 hE _ h
  · have h := os_f h c1
    refine go_iload_n hC dX4_needElement_4 rfl 0 rfl ?_
    refine go_iconst hC dX4_needElement_5 (v := (5 : Int32)) (by decide +kernel) ?_
    refine go_icmp_ge (t := 23) hC dX4_needElement_6 (by decide) (fun c2 => ?_) (fun c2 => ?_)
    · have h := os_t h c2
      refine go_sub (lv' := []) [] rfl ?_
      exact tX4_needElement_23 hE _ h
    · have h := os_f h c2
      refine go_iload_n hC dX4_needElement_9 rfl 1 rfl ?_
      refine go_if_lt (t := 23) hC dX4_needElement_10 (by decide) (fun c3 => ?_) (fun c3 => ?_)
      · have h := os_t h c3
        refine go_sub (lv' := []) [] rfl ?_
        exact tX4_needElement_23 hE _ h
      · have h := os_f h c3
        refine go_iload_n hC dX4_needElement_13 rfl 1 rfl ?_
        refine go_bipush hC dX4_needElement_14 (v := (8 : Int32)) (by decide +kernel) ?_
        refine go_icmp_ge (t := 23) hC dX4_needElement_16 (by decide) (fun c4 => ?_) (fun c4 => ?_)
        · have h := os_t h c4
          refine go_sub (lv' := []) [] rfl ?_
          exact tX4_needElement_23 hE _ h
        · have h := os_f h c4
          refine go_iconst hC dX4_needElement_19 (v := (1 : Int32)) (by decide +kernel) ?_
          refine go_goto (t := 24) hC dX4_needElement_20 (by decide) ?_
          refine go_sub (lv' := []) [] rfl ?_
          exact tX4_needElement_24 hE _ _ h
theorem c_X4_needElement (l : Launch) {x9 : Cx} {k9 : Nat} {M M9 : Mm} {r9 : Unit} {v0 : Int32} {v1 : Int32} (h : fX4_needElement x9 k9 v0 v1 M = some (.inr r9, M9)) : Fn l x9 yX4_needElement cX4_needElement 2 none 7 110 [.int v0, .int v1] M none M9 :=
  Fn.of (by decide +kernel) (Nat.le_of_ble_eq_true rfl) rfl (fun K _ hE => tX4_needElement_0 hE _ _ _ h)
set_option maxRecDepth 100000 in
set_option maxHeartbeats 4000000 in
theorem uX4_needElement_24 {x9 : Cx} {K : Ct} {k9 : Nat} {M0 M9 : Mm} {c9 : Nat} (hX : CeX x9 K RX4 cX4_needElement 2 none 7 110 "needElement" M0) (s0 : Int32) (M : Mm) (h : fX4_needElement_24 x9 k9 s0 M = some (.inl c9, M9)) : Go x9 K 2 (QX x9 K M0 c9 M9) 24 [] [.int s0] M := by
  have hE := hX.1
  have hC := hE.1
  unfold fX4_needElement_24 at h
  rcases os_TX h with h3 | ⟨r1, M2, h3, h⟩
  · exact go_callSX (bytes := cX4_needArgument) (maxL := 1) (ret := none) (n := 1) (As := [.int s0]) (st := []) hX (cX_X4_needArgument K.2.1 hX.2.2 h3) (by unfold okY; decide +kernel) rfl m_117 m_115 m_116 m_2 rfl (by simp [Value.category]) (by decide) (by decide) dX4_needElement_24
  refine go_callS (bytes := cX4_needArgument) (maxL := 1) (ret := none) (n := 1) (As := [.int s0]) (st := []) hE (c_X4_needArgument K.2.1 h3) (by unfold okY; decide +kernel) rfl m_117 m_115 m_116 m_2 rfl (by simp [Value.category]) (by decide) (by decide) dX4_needElement_24 ?_
  refine go_eq (pc' := 27) (st' := []) (M' := M2) (lv' := []) ?_ rfl rfl rfl rfl
  cases h
set_option maxRecDepth 100000 in
set_option maxHeartbeats 4000000 in
theorem uX4_needElement_23 {x9 : Cx} {K : Ct} {k9 : Nat} {M0 M9 : Mm} {c9 : Nat} (hX : CeX x9 K RX4 cX4_needElement 2 none 7 110 "needElement" M0) (M : Mm) (h : fX4_needElement_23 x9 k9 M = some (.inl c9, M9)) : Go x9 K 2 (QX x9 K M0 c9 M9) 23 [] [] M := by
  have hE := hX.1
  have hC := hE.1
  unfold fX4_needElement_23 at h
  refine go_iconst hC dX4_needElement_23 (v := (0 : Int32)) (by decide +kernel) ?_
  exact uX4_needElement_24 hX _ _ h
set_option maxRecDepth 100000 in
set_option maxHeartbeats 4000000 in
theorem uX4_needElement_0 {x9 : Cx} {K : Ct} {k9 : Nat} {M0 M9 : Mm} {c9 : Nat} (hX : CeX x9 K RX4 cX4_needElement 2 none 7 110 "needElement" M0) (v0 : Int32) (v1 : Int32) (M : Mm) (h : fX4_needElement x9 k9 v0 v1 M = some (.inl c9, M9)) : Go x9 K 2 (QX x9 K M0 c9 M9) 0 [(0, .int v0), (1, .int v1)] [] M := by
  have hE := hX.1
  have hC := hE.1
  unfold fX4_needElement at h
  refine go_iload_n hC dX4_needElement_0 rfl 0 rfl ?_
  refine go_if_lt (t := 23) hC dX4_needElement_1 (by decide) (fun c1 => ?_) (fun c1 => ?_)
  · have h := os_t h c1
    refine go_sub (lv' := []) [] rfl ?_
    exact uX4_needElement_23 hX _ h
  · have h := os_f h c1
    refine go_iload_n hC dX4_needElement_4 rfl 0 rfl ?_
    refine go_iconst hC dX4_needElement_5 (v := (5 : Int32)) (by decide +kernel) ?_
    refine go_icmp_ge (t := 23) hC dX4_needElement_6 (by decide) (fun c2 => ?_) (fun c2 => ?_)
    · have h := os_t h c2
      refine go_sub (lv' := []) [] rfl ?_
      exact uX4_needElement_23 hX _ h
    · have h := os_f h c2
      refine go_iload_n hC dX4_needElement_9 rfl 1 rfl ?_
      refine go_if_lt (t := 23) hC dX4_needElement_10 (by decide) (fun c3 => ?_) (fun c3 => ?_)
      · have h := os_t h c3
        refine go_sub (lv' := []) [] rfl ?_
        exact uX4_needElement_23 hX _ h
      · have h := os_f h c3
        refine go_iload_n hC dX4_needElement_13 rfl 1 rfl ?_
        refine go_bipush hC dX4_needElement_14 (v := (8 : Int32)) (by decide +kernel) ?_
        refine go_icmp_ge (t := 23) hC dX4_needElement_16 (by decide) (fun c4 => ?_) (fun c4 => ?_)
        · have h := os_t h c4
          refine go_sub (lv' := []) [] rfl ?_
          exact uX4_needElement_23 hX _ h
        · have h := os_f h c4
          refine go_iconst hC dX4_needElement_19 (v := (1 : Int32)) (by decide +kernel) ?_
          refine go_goto (t := 24) hC dX4_needElement_20 (by decide) ?_
          refine go_sub (lv' := []) [] rfl ?_
          exact uX4_needElement_24 hX _ _ h
theorem cX_X4_needElement (l : Launch) (hl : l.stackTraces = false) {x9 : Cx} {k9 : Nat} {M M9 : Mm} {c9 : Nat} {v0 : Int32} {v1 : Int32} (h : fX4_needElement x9 k9 v0 v1 M = some (.inl c9, M9)) : FnX l x9 yX4_needElement cX4_needElement 2 none 7 110 [.int v0, .int v1] M c9 M9 :=
  FnX.of hl (by decide +kernel) (Nat.le_of_ble_eq_true rfl) rfl (fun K _ hX => uX4_needElement_0 hX _ _ _ h)
/-! X4_needLetter -/
def fX4_needLetter_20 (x9 : Cx) (k9 : Nat) (s0 : Int32) (M : Mm) : Option ((Nat ⊕ Unit) × Mm) :=
  obT (fX4_needArgument x9 k9 s0 M) (fun r1 M2 => some (.inr (), M2))
set_option maxRecDepth 100000 in
set_option maxHeartbeats 4000000 in
theorem tX4_needLetter_20 {x9 : Cx} {K : Ct} {k9 : Nat} {M0 M9 : Mm} {r9 : Unit} (hE : Ce x9 K RX4 cX4_needLetter 2 none 7 110 "needLetter" M0) (s0 : Int32) (M : Mm) (h : fX4_needLetter_20 x9 k9 s0 M = some (.inr r9, M9)) : Go x9 K 2 (Qf x9 K M0 none M9) 20 [] [.int s0] M := by
  have hC := hE.1
  have hnm := hE.2.2.2.2.2.2.2.1
  unfold fX4_needLetter_20 at h
  obtain ⟨r1, M2, h3, h⟩ := os_TR h
  refine go_callS (bytes := cX4_needArgument) (maxL := 1) (ret := none) (n := 1) (As := [.int s0]) (st := []) hE (c_X4_needArgument K.2.1 h3) (by unfold okY; decide +kernel) rfl m_117 m_115 m_116 m_2 rfl (by simp [Value.category]) (by decide) (by decide) dX4_needLetter_20 ?_
  refine go_eq (pc' := 23) (st' := []) (M' := M2) (lv' := []) ?_ rfl rfl rfl rfl
  cases h
  exact go_vret hE dX4_needLetter_23
def fX4_needLetter_19 (x9 : Cx) (k9 : Nat) (M : Mm) : Option ((Nat ⊕ Unit) × Mm) :=
  fX4_needLetter_20 x9 k9 (0 : Int32) M
set_option maxRecDepth 100000 in
set_option maxHeartbeats 4000000 in
theorem tX4_needLetter_19 {x9 : Cx} {K : Ct} {k9 : Nat} {M0 M9 : Mm} {r9 : Unit} (hE : Ce x9 K RX4 cX4_needLetter 2 none 7 110 "needLetter" M0) (M : Mm) (h : fX4_needLetter_19 x9 k9 M = some (.inr r9, M9)) : Go x9 K 2 (Qf x9 K M0 none M9) 19 [] [] M := by
  have hC := hE.1
  have hnm := hE.2.2.2.2.2.2.2.1
  unfold fX4_needLetter_19 at h
  refine go_iconst hC dX4_needLetter_19 (v := (0 : Int32)) (by decide +kernel) ?_
  exact tX4_needLetter_20 hE _ _ h
def fX4_needLetter (x9 : Cx) (k9 : Nat) (v0 : Nat) (v1 : Int32) (M : Mm) : Option ((Nat ⊕ Unit) × Mm) :=
  if v1 < 0 then fX4_needLetter_19 x9 k9 M else if mK M v0 = 5 then ob1 (mP M v0 2) (fun b3 => if mK M b3 = 7 then ob2 (fJx4a65c_size_8abf5 x9 k9 b3 M) (fun r5 M6 => if r5 ≤ v1 then fX4_needLetter_19 x9 k9 M6 else fX4_needLetter_20 x9 k9 (1 : Int32) M6) else none) else none
set_option maxRecDepth 100000 in
set_option maxHeartbeats 4000000 in
theorem tX4_needLetter_0 {x9 : Cx} {K : Ct} {k9 : Nat} {M0 M9 : Mm} {r9 : Unit} (hE : Ce x9 K RX4 cX4_needLetter 2 none 7 110 "needLetter" M0) (v0 : Nat) (v1 : Int32) (M : Mm) (h : fX4_needLetter x9 k9 v0 v1 M = some (.inr r9, M9)) : Go x9 K 2 (Qf x9 K M0 none M9) 0 [(0, .ref v0), (1, .int v1)] [] M := by
  have hC := hE.1
  have hnm := hE.2.2.2.2.2.2.2.1
  unfold fX4_needLetter at h
  refine go_iload_n hC dX4_needLetter_0 rfl 1 rfl ?_
  refine go_if_lt (t := 19) hC dX4_needLetter_1 (by decide) (fun c1 => ?_) (fun c1 => ?_)
  · have h := os_t h c1
    refine go_sub (lv' := []) [] rfl ?_
    exact tX4_needLetter_19 hE _ h
  · have h := os_f h c1
    refine go_iload_n hC dX4_needLetter_4 rfl 1 rfl ?_
    refine go_aload_n hC dX4_needLetter_5 rfl 0 rfl ?_
    obtain ⟨h2, h⟩ := os_1 h
    obtain ⟨b3, h4, h⟩ := os_b h
    refine go_getR 2 hC h2 rfl rfl h4 (C := RX4) (T := TX4) (N := 7) rfl inlX4 (by decide) m_21 (Or.inl rfl) dX4_needLetter_6 ?_
    obtain ⟨h8, h⟩ := os_1 h
    obtain ⟨r5, M6, h7, h⟩ := os_c h
    refine go_callV (bytes := cJx4a65c_size_8abf5) (maxL := 1) (ret := (some .int)) (n := 0) (As := []) (st := [.int v1]) hE (c_Jx4a65c_size_8abf5 K.2.1 h7) (by unfold okY; decide +kernel) rfl h8 rfl (C := RJx4a65c) (T := TJx4a65c) (N := 3) rfl m_159 m_156 m_157 m_158 m_19 rfl (by simp [Value.category]) (by decide) (by decide) dX4_needLetter_9 ?_
    refine go_eq (pc' := 12) (st' := [.int r5, .int v1]) (M' := M6) (lv' := [(0, .ref v0), (1, .int v1)]) ?_ rfl rfl rfl rfl
    refine go_icmp_ge (t := 19) hC dX4_needLetter_12 (by decide) (fun c9 => ?_) (fun c9 => ?_)
    · have h := os_t h c9
      refine go_sub (lv' := []) [] rfl ?_
      exact tX4_needLetter_19 hE _ h
    · have h := os_f h c9
      refine go_iconst hC dX4_needLetter_15 (v := (1 : Int32)) (by decide +kernel) ?_
      refine go_goto (t := 20) hC dX4_needLetter_16 (by decide) ?_
      refine go_sub (lv' := []) [] rfl ?_
      exact tX4_needLetter_20 hE _ _ h
theorem c_X4_needLetter (l : Launch) {x9 : Cx} {k9 : Nat} {M M9 : Mm} {r9 : Unit} {v0 : Nat} {v1 : Int32} (h : fX4_needLetter x9 k9 v0 v1 M = some (.inr r9, M9)) : Fn l x9 yX4_needLetter cX4_needLetter 2 none 7 110 [.ref v0, .int v1] M none M9 :=
  Fn.of (by decide +kernel) (Nat.le_of_ble_eq_true rfl) rfl (fun K _ hE => tX4_needLetter_0 hE _ _ _ h)
set_option maxRecDepth 100000 in
set_option maxHeartbeats 4000000 in
theorem uX4_needLetter_20 {x9 : Cx} {K : Ct} {k9 : Nat} {M0 M9 : Mm} {c9 : Nat} (hX : CeX x9 K RX4 cX4_needLetter 2 none 7 110 "needLetter" M0) (s0 : Int32) (M : Mm) (h : fX4_needLetter_20 x9 k9 s0 M = some (.inl c9, M9)) : Go x9 K 2 (QX x9 K M0 c9 M9) 20 [] [.int s0] M := by
  have hE := hX.1
  have hC := hE.1
  unfold fX4_needLetter_20 at h
  rcases os_TX h with h3 | ⟨r1, M2, h3, h⟩
  · exact go_callSX (bytes := cX4_needArgument) (maxL := 1) (ret := none) (n := 1) (As := [.int s0]) (st := []) hX (cX_X4_needArgument K.2.1 hX.2.2 h3) (by unfold okY; decide +kernel) rfl m_117 m_115 m_116 m_2 rfl (by simp [Value.category]) (by decide) (by decide) dX4_needLetter_20
  refine go_callS (bytes := cX4_needArgument) (maxL := 1) (ret := none) (n := 1) (As := [.int s0]) (st := []) hE (c_X4_needArgument K.2.1 h3) (by unfold okY; decide +kernel) rfl m_117 m_115 m_116 m_2 rfl (by simp [Value.category]) (by decide) (by decide) dX4_needLetter_20 ?_
  refine go_eq (pc' := 23) (st' := []) (M' := M2) (lv' := []) ?_ rfl rfl rfl rfl
  cases h
set_option maxRecDepth 100000 in
set_option maxHeartbeats 4000000 in
theorem uX4_needLetter_19 {x9 : Cx} {K : Ct} {k9 : Nat} {M0 M9 : Mm} {c9 : Nat} (hX : CeX x9 K RX4 cX4_needLetter 2 none 7 110 "needLetter" M0) (M : Mm) (h : fX4_needLetter_19 x9 k9 M = some (.inl c9, M9)) : Go x9 K 2 (QX x9 K M0 c9 M9) 19 [] [] M := by
  have hE := hX.1
  have hC := hE.1
  unfold fX4_needLetter_19 at h
  refine go_iconst hC dX4_needLetter_19 (v := (0 : Int32)) (by decide +kernel) ?_
  exact uX4_needLetter_20 hX _ _ h
set_option maxRecDepth 100000 in
set_option maxHeartbeats 4000000 in
theorem uX4_needLetter_0 {x9 : Cx} {K : Ct} {k9 : Nat} {M0 M9 : Mm} {c9 : Nat} (hX : CeX x9 K RX4 cX4_needLetter 2 none 7 110 "needLetter" M0) (v0 : Nat) (v1 : Int32) (M : Mm) (h : fX4_needLetter x9 k9 v0 v1 M = some (.inl c9, M9)) : Go x9 K 2 (QX x9 K M0 c9 M9) 0 [(0, .ref v0), (1, .int v1)] [] M := by
  have hE := hX.1
  have hC := hE.1
  unfold fX4_needLetter at h
  refine go_iload_n hC dX4_needLetter_0 rfl 1 rfl ?_
  refine go_if_lt (t := 19) hC dX4_needLetter_1 (by decide) (fun c1 => ?_) (fun c1 => ?_)
  · have h := os_t h c1
    refine go_sub (lv' := []) [] rfl ?_
    exact uX4_needLetter_19 hX _ h
  · have h := os_f h c1
    refine go_iload_n hC dX4_needLetter_4 rfl 1 rfl ?_
    refine go_aload_n hC dX4_needLetter_5 rfl 0 rfl ?_
    obtain ⟨h2, h⟩ := os_1 h
    obtain ⟨b3, h4, h⟩ := os_b h
    refine go_getR 2 hC h2 rfl rfl h4 (C := RX4) (T := TX4) (N := 7) rfl inlX4 (by decide) m_21 (Or.inl rfl) dX4_needLetter_6 ?_
    obtain ⟨h8, h⟩ := os_1 h
    obtain ⟨r5, M6, h7, h⟩ := os_c h
    refine go_callV (bytes := cJx4a65c_size_8abf5) (maxL := 1) (ret := (some .int)) (n := 0) (As := []) (st := [.int v1]) hE (c_Jx4a65c_size_8abf5 K.2.1 h7) (by unfold okY; decide +kernel) rfl h8 rfl (C := RJx4a65c) (T := TJx4a65c) (N := 3) rfl m_159 m_156 m_157 m_158 m_19 rfl (by simp [Value.category]) (by decide) (by decide) dX4_needLetter_9 ?_
    refine go_eq (pc' := 12) (st' := [.int r5, .int v1]) (M' := M6) (lv' := [(0, .ref v0), (1, .int v1)]) ?_ rfl rfl rfl rfl
    refine go_icmp_ge (t := 19) hC dX4_needLetter_12 (by decide) (fun c9 => ?_) (fun c9 => ?_)
    · have h := os_t h c9
      refine go_sub (lv' := []) [] rfl ?_
      exact uX4_needLetter_19 hX _ h
    · have h := os_f h c9
      refine go_iconst hC dX4_needLetter_15 (v := (1 : Int32)) (by decide +kernel) ?_
      refine go_goto (t := 20) hC dX4_needLetter_16 (by decide) ?_
      refine go_sub (lv' := []) [] rfl ?_
      exact uX4_needLetter_20 hX _ _ h
theorem cX_X4_needLetter (l : Launch) (hl : l.stackTraces = false) {x9 : Cx} {k9 : Nat} {M M9 : Mm} {c9 : Nat} {v0 : Nat} {v1 : Int32} (h : fX4_needLetter x9 k9 v0 v1 M = some (.inl c9, M9)) : FnX l x9 yX4_needLetter cX4_needLetter 2 none 7 110 [.ref v0, .int v1] M c9 M9 :=
  FnX.of hl (by decide +kernel) (Nat.le_of_ble_eq_true rfl) rfl (fun K _ hX => uX4_needLetter_0 hX _ _ _ h)
/-! X3_writtenCount -/
def fX3_writtenCount (x9 : Cx) (k9 : Nat) (v0 : Nat) (M : Mm) : Option (Int32 × Mm) :=
  if mK M v0 = 4 then ob2 (fJ6_bitCount_0f7a4 x9 k9 (mV M v0 5) M) (fun r2 M3 => some (r2, M3)) else none
set_option maxRecDepth 100000 in
set_option maxHeartbeats 4000000 in
theorem tX3_writtenCount_0 {x9 : Cx} {K : Ct} {k9 : Nat} {M0 M9 : Mm} {r9 : Int32} (hE : Ce x9 K RX3 cX3_writtenCount 1 (some .int) 1 20 "writtenCount" M0) (v0 : Nat) (M : Mm) (h : fX3_writtenCount x9 k9 v0 M = some (r9, M9)) : Go x9 K 1 (Qf x9 K M0 (some (.int r9)) M9) 0 [(0, .ref v0)] [] M := by
  have hC := hE.1
  have hnm := hE.2.2.2.2.2.2.2.1
  unfold fX3_writtenCount at h
  refine go_aload_n hC dX3_writtenCount_0 rfl 0 rfl ?_
  obtain ⟨h1, h⟩ := os_1 h
  refine go_getV 5 hC h1 rfl rfl (C := RX3) (T := TX3) (N := 16) rfl inlX3 (by decide) m_241 (Or.inl rfl) dX3_writtenCount_1 ?_
  obtain ⟨r2, M3, h4, h⟩ := os_c h
  refine go_callS (bytes := cJ6_bitCount_0f7a4) (maxL := 1) (ret := (some .int)) (n := 1) (As := [.int (mV M v0 5)]) (st := []) hE (c_J6_bitCount_0f7a4 K.2.1 h4) (by unfold okY; decide +kernel) rfl m_328 m_325 m_326 m_327 rfl (by simp [Value.category]) (by decide) (by decide) dX3_writtenCount_4 ?_
  refine go_eq (pc' := 7) (st' := [.int r2]) (M' := M3) (lv' := [(0, .ref v0)]) ?_ rfl rfl rfl rfl
  cases h
  exact go_iret hE dX3_writtenCount_7
theorem c_X3_writtenCount (l : Launch) {x9 : Cx} {k9 : Nat} {M M9 : Mm} {r9 : Int32} {v0 : Nat} (h : fX3_writtenCount x9 k9 v0 M = some (r9, M9)) : Fn l x9 yX3_writtenCount cX3_writtenCount 1 (some .int) 1 20 [.ref v0] M (some (.int r9)) M9 :=
  Fn.of (by decide +kernel) (Nat.le_of_ble_eq_true rfl) rfl (fun K _ hE => tX3_writtenCount_0 hE _ _ h)
/-! X4_cellOf -/
def fX4_cellOf (x9 : Cx) (k9 : Nat) (v0 : Int32) (v1 : Int32) (M : Mm) : Option (Int32 × Mm) :=
  some ((((8 : Int32) * v0) + v1), M)
set_option maxRecDepth 100000 in
set_option maxHeartbeats 4000000 in
theorem tX4_cellOf_0 {x9 : Cx} {K : Ct} {k9 : Nat} {M0 M9 : Mm} {r9 : Int32} (hE : Ce x9 K RX4 cX4_cellOf 2 (some .int) 0 0 "cellOf" M0) (v0 : Int32) (v1 : Int32) (M : Mm) (h : fX4_cellOf x9 k9 v0 v1 M = some (r9, M9)) : Go x9 K 2 (Qf x9 K M0 (some (.int r9)) M9) 0 [(0, .int v0), (1, .int v1)] [] M := by
  have hC := hE.1
  have hnm := hE.2.2.2.2.2.2.2.1
  unfold fX4_cellOf at h
  refine go_bipush hC dX4_cellOf_0 (v := (8 : Int32)) (by decide +kernel) ?_
  refine go_iload_n hC dX4_cellOf_2 rfl 0 rfl ?_
  refine go_imul hC dX4_cellOf_3 ?_
  refine go_iload_n hC dX4_cellOf_4 rfl 1 rfl ?_
  refine go_iadd hC dX4_cellOf_5 ?_
  cases h
  exact go_iret hE dX4_cellOf_6
theorem c_X4_cellOf (l : Launch) {x9 : Cx} {k9 : Nat} {M M9 : Mm} {r9 : Int32} {v0 : Int32} {v1 : Int32} (h : fX4_cellOf x9 k9 v0 v1 M = some (r9, M9)) : Fn l x9 yX4_cellOf cX4_cellOf 2 (some .int) 0 0 [.int v0, .int v1] M (some (.int r9)) M9 :=
  Fn.of (by decide +kernel) (Nat.le_of_ble_eq_true rfl) rfl (fun K _ hE => tX4_cellOf_0 hE _ _ _ h)
/-! X4_homeOf -/
def fX4_homeOf (x9 : Cx) (k9 : Nat) (v0 : Nat) (v1 : Int32) (M : Mm) : Option (Int32 × Mm) :=
  if mK M v0 = 5 then if ¬ (mV M v0 4) = 0 then some ((v1 - v1 / (mV M v0 4) * (mV M v0 4)), M) else none else none
set_option maxRecDepth 100000 in
set_option maxHeartbeats 4000000 in
theorem tX4_homeOf_0 {x9 : Cx} {K : Ct} {k9 : Nat} {M0 M9 : Mm} {r9 : Int32} (hE : Ce x9 K RX4 cX4_homeOf 2 (some .int) 0 0 "homeOf" M0) (v0 : Nat) (v1 : Int32) (M : Mm) (h : fX4_homeOf x9 k9 v0 v1 M = some (r9, M9)) : Go x9 K 2 (Qf x9 K M0 (some (.int r9)) M9) 0 [(0, .ref v0), (1, .int v1)] [] M := by
  have hC := hE.1
  have hnm := hE.2.2.2.2.2.2.2.1
  unfold fX4_homeOf at h
  refine go_iload_n hC dX4_homeOf_0 rfl 1 rfl ?_
  refine go_aload_n hC dX4_homeOf_1 rfl 0 rfl ?_
  obtain ⟨h1, h⟩ := os_1 h
  refine go_getV 4 hC h1 rfl rfl (C := RX4) (T := TX4) (N := 7) rfl inlX4 (by decide) m_55 (Or.inl rfl) dX4_homeOf_2 ?_
  obtain ⟨h2, h⟩ := os_1 h
  refine go_irem hC dX4_homeOf_5 h2 ?_
  cases h
  exact go_iret hE dX4_homeOf_6
theorem c_X4_homeOf (l : Launch) {x9 : Cx} {k9 : Nat} {M M9 : Mm} {r9 : Int32} {v0 : Nat} {v1 : Int32} (h : fX4_homeOf x9 k9 v0 v1 M = some (r9, M9)) : Fn l x9 yX4_homeOf cX4_homeOf 2 (some .int) 0 0 [.ref v0, .int v1] M (some (.int r9)) M9 :=
  Fn.of (by decide +kernel) (Nat.le_of_ble_eq_true rfl) rfl (fun K _ hE => tX4_homeOf_0 hE _ _ _ h)
/-! X4_hasWithHome -/
def fX4_hasWithHome_22 (x9 : Cx) (k9 : Nat) (s0 : Int32) (M : Mm) : Option (Int32 × Mm) :=
  if s0 = 0 ∨ s0 = 1 then some (s0, M) else none
set_option maxRecDepth 100000 in
set_option maxHeartbeats 4000000 in
theorem tX4_hasWithHome_22 {x9 : Cx} {K : Ct} {k9 : Nat} {M0 M9 : Mm} {r9 : Int32} (hE : Ce x9 K RX4 cX4_hasWithHome 4 (some .boolean) 2 42 "hasWithHome" M0) (s0 : Int32) (M : Mm) (h : fX4_hasWithHome_22 x9 k9 s0 M = some (r9, M9)) : Go x9 K 4 (Qf x9 K M0 (some (.int r9)) M9) 22 [] [.int s0] M := by
  have hC := hE.1
  have hnm := hE.2.2.2.2.2.2.2.1
  unfold fX4_hasWithHome_22 at h
  obtain ⟨h1, h⟩ := os_1 h
  cases h
  exact go_zret hE h1 dX4_hasWithHome_22
def fX4_hasWithHome_21 (x9 : Cx) (k9 : Nat) (M : Mm) : Option (Int32 × Mm) :=
  fX4_hasWithHome_22 x9 k9 (0 : Int32) M
set_option maxRecDepth 100000 in
set_option maxHeartbeats 4000000 in
theorem tX4_hasWithHome_21 {x9 : Cx} {K : Ct} {k9 : Nat} {M0 M9 : Mm} {r9 : Int32} (hE : Ce x9 K RX4 cX4_hasWithHome 4 (some .boolean) 2 42 "hasWithHome" M0) (M : Mm) (h : fX4_hasWithHome_21 x9 k9 M = some (r9, M9)) : Go x9 K 4 (Qf x9 K M0 (some (.int r9)) M9) 21 [] [] M := by
  have hC := hE.1
  have hnm := hE.2.2.2.2.2.2.2.1
  unfold fX4_hasWithHome_21 at h
  refine go_iconst hC dX4_hasWithHome_21 (v := (0 : Int32)) (by decide +kernel) ?_
  exact tX4_hasWithHome_22 hE _ _ h
def fX4_hasWithHome (x9 : Cx) (k9 : Nat) (v0 : Nat) (v1 : Nat) (v2 : Int32) (v3 : Int32) (M : Mm) : Option (Int32 × Mm) :=
  if mK M v1 = 4 then ob2 (fX3_wrote x9 k9 v1 v2 M) (fun r1 M2 => if r1 = 0 then fX4_hasWithHome_21 x9 k9 M2 else if mK M2 v0 = 5 then ob2 (fX4_homeOf x9 k9 v0 v2 M2) (fun r6 M7 => if r6 = v3 then fX4_hasWithHome_22 x9 k9 (1 : Int32) M7 else fX4_hasWithHome_21 x9 k9 M7) else none) else none
set_option maxRecDepth 100000 in
set_option maxHeartbeats 4000000 in
theorem tX4_hasWithHome_0 {x9 : Cx} {K : Ct} {k9 : Nat} {M0 M9 : Mm} {r9 : Int32} (hE : Ce x9 K RX4 cX4_hasWithHome 4 (some .boolean) 2 42 "hasWithHome" M0) (v0 : Nat) (v1 : Nat) (v2 : Int32) (v3 : Int32) (M : Mm) (h : fX4_hasWithHome x9 k9 v0 v1 v2 v3 M = some (r9, M9)) : Go x9 K 4 (Qf x9 K M0 (some (.int r9)) M9) 0 [(0, .ref v0), (1, .ref v1), (2, .int v2), (3, .int v3)] [] M := by
  have hC := hE.1
  have hnm := hE.2.2.2.2.2.2.2.1
  unfold fX4_hasWithHome at h
  refine go_aload_n hC dX4_hasWithHome_0 rfl 1 rfl ?_
  refine go_iload_n hC dX4_hasWithHome_1 rfl 2 rfl ?_
  obtain ⟨h4, h⟩ := os_1 h
  obtain ⟨r1, M2, h3, h⟩ := os_c h
  refine go_callV (bytes := cX3_wrote) (maxL := 2) (ret := (some .boolean)) (n := 1) (As := [.int v2]) (st := []) hE (c_X3_wrote K.2.1 h3) (by unfold okY; decide +kernel) rfl h4 rfl (C := RX3) (T := TX3) (N := 16) rfl m_281 m_278 m_279 m_280 m_144 rfl (by simp [Value.category]) (by decide) (by decide) dX4_hasWithHome_2 ?_
  refine go_eq (pc' := 5) (st' := [.int r1]) (M' := M2) (lv' := [(0, .ref v0), (1, .ref v1), (2, .int v2), (3, .int v3)]) ?_ rfl rfl rfl rfl
  refine go_if_eq (t := 21) hC dX4_hasWithHome_5 (by decide) (fun c5 => ?_) (fun c5 => ?_)
  · have h := os_t h c5
    refine go_sub (lv' := []) [] rfl ?_
    exact tX4_hasWithHome_21 hE _ h
  · have h := os_f h c5
    refine go_aload_n hC dX4_hasWithHome_8 rfl 0 rfl ?_
    refine go_iload_n hC dX4_hasWithHome_9 rfl 2 rfl ?_
    obtain ⟨h9, h⟩ := os_1 h
    obtain ⟨r6, M7, h8, h⟩ := os_c h
    refine go_callV (bytes := cX4_homeOf) (maxL := 2) (ret := (some .int)) (n := 1) (As := [.int v2]) (st := []) hE (c_X4_homeOf K.2.1 h8) (by unfold okY; decide +kernel) rfl h9 rfl (C := RX4) (T := TX4) (N := 7) rfl m_396 m_393 m_394 m_395 m_2 rfl (by simp [Value.category]) (by decide) (by decide) dX4_hasWithHome_10 ?_
    refine go_eq (pc' := 13) (st' := [.int r6]) (M' := M7) (lv' := [(0, .ref v0), (1, .ref v1), (2, .int v2), (3, .int v3)]) ?_ rfl rfl rfl rfl
    refine go_iload_n hC dX4_hasWithHome_13 rfl 3 rfl ?_
    refine go_icmp_ne (t := 21) hC dX4_hasWithHome_14 (by decide) (fun c10 => ?_) (fun c10 => ?_)
    · have h := os_f h c10
      refine go_sub (lv' := []) [] rfl ?_
      exact tX4_hasWithHome_21 hE _ h
    · have h := os_t h c10
      refine go_iconst hC dX4_hasWithHome_17 (v := (1 : Int32)) (by decide +kernel) ?_
      refine go_goto (t := 22) hC dX4_hasWithHome_18 (by decide) ?_
      refine go_sub (lv' := []) [] rfl ?_
      exact tX4_hasWithHome_22 hE _ _ h
theorem c_X4_hasWithHome (l : Launch) {x9 : Cx} {k9 : Nat} {M M9 : Mm} {r9 : Int32} {v0 : Nat} {v1 : Nat} {v2 : Int32} {v3 : Int32} (h : fX4_hasWithHome x9 k9 v0 v1 v2 v3 M = some (r9, M9)) : Fn l x9 yX4_hasWithHome cX4_hasWithHome 4 (some .boolean) 2 42 [.ref v0, .ref v1, .int v2, .int v3] M (some (.int r9)) M9 :=
  Fn.of (by decide +kernel) (Nat.le_of_ble_eq_true rfl) rfl (fun K _ hE => tX4_hasWithHome_0 hE _ _ _ _ _ h)
/-! X4_applyAt -/
def fX4_applyAt (x9 : Cx) (k9 : Nat) (v0 : Nat) (v1 : Nat) (v2 : Int32) (M : Mm) : Option (Unit × Mm) :=
  if mK M v0 = 5 then ob1 (mP M v0 0) (fun b2 => if (mK M b2 = 10 ∨ mK M b2 = 11) ∧ ¬ (v2 < 0 ∨ mN M b2 ≤ (v2).toNatClampNeg) then ob1 (mP M b2 (v2).toNatClampNeg) (fun b6 => if mK M b6 = 3 then ob2 (fX2_take x9 k9 b6 v1 M) (fun r7 M8 => if mK M8 v1 = 4 then ob2 (fX4_bit x9 k9 v2 M8) (fun r12 M13 => if mK M13 v1 = 4 then if mK (sV M13 v1 12 ((mV M8 v1 12) ||| r12)) v1 = 4 then ob2 (fX4_bit x9 k9 v2 (sV M13 v1 12 ((mV M8 v1 12) ||| r12))) (fun r18 M19 => if mK M19 v1 = 4 then lt1 (sV M19 v1 13 ((mV (sV M13 v1 12 ((mV M8 v1 12) ||| r12)) v1 13) &&& (r18 ^^^ (-1 : Int32)))) (fun M23 => some ((), M23)) else none) else none else none) else none) else none) else none) else none
set_option maxRecDepth 100000 in
set_option maxHeartbeats 4000000 in
theorem tX4_applyAt_0 {x9 : Cx} {K : Ct} {k9 : Nat} {M0 M9 : Mm} {r9 : Unit} (hE : Ce x9 K RX4 cX4_applyAt 3 none 2 43 "applyAt" M0) (v0 : Nat) (v1 : Nat) (v2 : Int32) (M : Mm) (h : fX4_applyAt x9 k9 v0 v1 v2 M = some (r9, M9)) : Go x9 K 3 (Qf x9 K M0 none M9) 0 [(0, .ref v0), (1, .ref v1), (2, .int v2)] [] M := by
  have hC := hE.1
  have hnm := hE.2.2.2.2.2.2.2.1
  unfold fX4_applyAt at h
  refine go_aload_n hC dX4_applyAt_0 rfl 0 rfl ?_
  obtain ⟨h1, h⟩ := os_1 h
  obtain ⟨b2, h3, h⟩ := os_b h
  refine go_getR 0 hC h1 rfl rfl h3 (C := RX4) (T := TX4) (N := 7) rfl inlX4 (by decide) m_14 (Or.inl rfl) dX4_applyAt_1 ?_
  refine go_iload_n hC dX4_applyAt_4 rfl 2 rfl ?_
  obtain ⟨h4, h⟩ := os_1 h
  obtain ⟨b6, h5, h⟩ := os_b h
  refine go_aald hC h4.1 h4.2 h5 dX4_applyAt_5 ?_
  refine go_aload_n hC dX4_applyAt_6 rfl 1 rfl ?_
  obtain ⟨h10, h⟩ := os_1 h
  obtain ⟨r7, M8, h9, h⟩ := os_c h
  refine go_callV (bytes := cX2_take) (maxL := 2) (ret := none) (n := 1) (As := [.ref v1]) (st := []) hE (c_X2_take K.2.1 h9) (by unfold okY; decide +kernel) rfl h10 rfl (C := RX2) (T := TX2) (N := 5) rfl m_428 m_425 m_426 m_427 m_16 rfl (by simp [Value.category]) (by decide) (by decide) dX4_applyAt_7 ?_
  refine go_eq (pc' := 10) (st' := []) (M' := M8) (lv' := [(0, .ref v0), (1, .ref v1), (2, .int v2)]) ?_ rfl rfl rfl rfl
  refine go_aload_n hC dX4_applyAt_10 rfl 1 rfl ?_
  refine go_dup hC dX4_applyAt_11 rfl ?_
  obtain ⟨h11, h⟩ := os_1 h
  refine go_getV 12 hC h11 rfl rfl (C := RX3) (T := TX3) (N := 16) rfl inlX3 (by decide) m_423 (Or.inl rfl) dX4_applyAt_12 ?_
  refine go_iload_n hC dX4_applyAt_15 rfl 2 rfl ?_
  obtain ⟨r12, M13, h14, h⟩ := os_c h
  refine go_callS (bytes := cX4_bit) (maxL := 1) (ret := (some .int)) (n := 1) (As := [.int v2]) (st := [.int (mV M8 v1 12), .ref v1]) hE (c_X4_bit K.2.1 h14) (by unfold okY; decide +kernel) rfl m_399 m_397 m_398 m_2 rfl (by simp [Value.category]) (by decide) (by decide) dX4_applyAt_16 ?_
  refine go_eq (pc' := 19) (st' := [.int r12, .int (mV M8 v1 12), .ref v1]) (M' := M13) (lv' := [(0, .ref v0), (1, .ref v1), (2, .int v2)]) ?_ rfl rfl rfl rfl
  refine go_ior hC dX4_applyAt_19 ?_
  obtain ⟨h16, h⟩ := os_1 h
  refine go_putV 12 hC h16 rfl rfl (C := RX3) (T := TX3) (N := 16) rfl inlX3 tyX3 tyX3_ok nmX3 (by decide) m_423 (Or.inl rfl) (Or.inl rfl) (tyX3_ok 12 (by decide)) rfl rfl dX4_applyAt_20 ?_
  refine go_aload_n hC dX4_applyAt_23 rfl 1 rfl ?_
  refine go_dup hC dX4_applyAt_24 rfl ?_
  obtain ⟨h17, h⟩ := os_1 h
  refine go_getV 13 hC h17 rfl rfl (C := RX3) (T := TX3) (N := 16) rfl inlX3 (by decide) m_424 (Or.inl rfl) dX4_applyAt_25 ?_
  refine go_iload_n hC dX4_applyAt_28 rfl 2 rfl ?_
  obtain ⟨r18, M19, h20, h⟩ := os_c h
  refine go_callS (bytes := cX4_bit) (maxL := 1) (ret := (some .int)) (n := 1) (As := [.int v2]) (st := [.int (mV (sV M13 v1 12 ((mV M8 v1 12) ||| r12)) v1 13), .ref v1]) hE (c_X4_bit K.2.1 h20) (by unfold okY; decide +kernel) rfl m_399 m_397 m_398 m_2 rfl (by simp [Value.category]) (by decide) (by decide) dX4_applyAt_29 ?_
  refine go_eq (pc' := 32) (st' := [.int r18, .int (mV (sV M13 v1 12 ((mV M8 v1 12) ||| r12)) v1 13), .ref v1]) (M' := M19) (lv' := [(0, .ref v0), (1, .ref v1), (2, .int v2)]) ?_ rfl rfl rfl rfl
  refine go_iconst hC dX4_applyAt_32 (v := (-1 : Int32)) (by decide +kernel) ?_
  refine go_ixor hC dX4_applyAt_33 ?_
  refine go_iand hC dX4_applyAt_34 ?_
  obtain ⟨h22, h⟩ := os_1 h
  refine go_putV 13 hC h22 rfl rfl (C := RX3) (T := TX3) (N := 16) rfl inlX3 tyX3 tyX3_ok nmX3 (by decide) m_424 (Or.inl rfl) (Or.inl rfl) (tyX3_ok 13 (by decide)) rfl rfl dX4_applyAt_35 ?_
  obtain ⟨M23, e24, h⟩ := os_l h
  refine go_eq (pc' := 38) (st' := []) (M' := M23) (lv' := [(0, .ref v0), (1, .ref v1), (2, .int v2)]) ?_ rfl rfl rfl e24
  cases h
  exact go_vret hE dX4_applyAt_38
theorem c_X4_applyAt (l : Launch) {x9 : Cx} {k9 : Nat} {M M9 : Mm} {r9 : Unit} {v0 : Nat} {v1 : Nat} {v2 : Int32} (h : fX4_applyAt x9 k9 v0 v1 v2 M = some (r9, M9)) : Fn l x9 yX4_applyAt cX4_applyAt 3 none 2 43 [.ref v0, .ref v1, .int v2] M none M9 :=
  Fn.of (by decide +kernel) (Nat.le_of_ble_eq_true rfl) rfl (fun K _ hE => tX4_applyAt_0 hE _ _ _ _ h)
/-! X4_allSites -/
def fX4_allSites (x9 : Cx) (k9 : Nat) (v0 : Nat) (M : Mm) : Option (Int32 × Mm) :=
  if mK M v0 = 5 then ob2 (fX4_bit x9 k9 (mV M v0 4) M) (fun r2 M3 => some ((r2 - (1 : Int32)), M3)) else none
set_option maxRecDepth 100000 in
set_option maxHeartbeats 4000000 in
theorem tX4_allSites_0 {x9 : Cx} {K : Ct} {k9 : Nat} {M0 M9 : Mm} {r9 : Int32} (hE : Ce x9 K RX4 cX4_allSites 1 (some .int) 1 20 "allSites" M0) (v0 : Nat) (M : Mm) (h : fX4_allSites x9 k9 v0 M = some (r9, M9)) : Go x9 K 1 (Qf x9 K M0 (some (.int r9)) M9) 0 [(0, .ref v0)] [] M := by
  have hC := hE.1
  have hnm := hE.2.2.2.2.2.2.2.1
  unfold fX4_allSites at h
  refine go_aload_n hC dX4_allSites_0 rfl 0 rfl ?_
  obtain ⟨h1, h⟩ := os_1 h
  refine go_getV 4 hC h1 rfl rfl (C := RX4) (T := TX4) (N := 7) rfl inlX4 (by decide) m_55 (Or.inl rfl) dX4_allSites_1 ?_
  obtain ⟨r2, M3, h4, h⟩ := os_c h
  refine go_callS (bytes := cX4_bit) (maxL := 1) (ret := (some .int)) (n := 1) (As := [.int (mV M v0 4)]) (st := []) hE (c_X4_bit K.2.1 h4) (by unfold okY; decide +kernel) rfl m_399 m_397 m_398 m_2 rfl (by simp [Value.category]) (by decide) (by decide) dX4_allSites_4 ?_
  refine go_eq (pc' := 7) (st' := [.int r2]) (M' := M3) (lv' := [(0, .ref v0)]) ?_ rfl rfl rfl rfl
  refine go_iconst hC dX4_allSites_7 (v := (1 : Int32)) (by decide +kernel) ?_
  refine go_isub hC dX4_allSites_8 ?_
  cases h
  exact go_iret hE dX4_allSites_9
theorem c_X4_allSites (l : Launch) {x9 : Cx} {k9 : Nat} {M M9 : Mm} {r9 : Int32} {v0 : Nat} (h : fX4_allSites x9 k9 v0 M = some (r9, M9)) : Fn l x9 yX4_allSites cX4_allSites 1 (some .int) 1 20 [.ref v0] M (some (.int r9)) M9 :=
  Fn.of (by decide +kernel) (Nat.le_of_ble_eq_true rfl) rfl (fun K _ hE => tX4_allSites_0 hE _ _ h)
/-! X4_hasRoom -/
def fX4_hasRoom_18 (x9 : Cx) (k9 : Nat) (s0 : Int32) (M : Mm) : Option (Int32 × Mm) :=
  if s0 = 0 ∨ s0 = 1 then some (s0, M) else none
set_option maxRecDepth 100000 in
set_option maxHeartbeats 4000000 in
theorem tX4_hasRoom_18 {x9 : Cx} {K : Ct} {k9 : Nat} {M0 M9 : Mm} {r9 : Int32} (hE : Ce x9 K RX4 cX4_hasRoom 1 (some .boolean) 1 20 "hasRoom" M0) (s0 : Int32) (M : Mm) (h : fX4_hasRoom_18 x9 k9 s0 M = some (r9, M9)) : Go x9 K 1 (Qf x9 K M0 (some (.int r9)) M9) 18 [] [.int s0] M := by
  have hC := hE.1
  have hnm := hE.2.2.2.2.2.2.2.1
  unfold fX4_hasRoom_18 at h
  obtain ⟨h1, h⟩ := os_1 h
  cases h
  exact go_zret hE h1 dX4_hasRoom_18
def fX4_hasRoom (x9 : Cx) (k9 : Nat) (v0 : Nat) (M : Mm) : Option (Int32 × Mm) :=
  if mK M v0 = 5 then ob1 (mP M v0 2) (fun b2 => if mK M b2 = 7 then ob2 (fJx4a65c_size_8abf5 x9 k9 b2 M) (fun r4 M5 => if (300 : Int32) ≤ r4 then fX4_hasRoom_18 x9 k9 (0 : Int32) M5 else fX4_hasRoom_18 x9 k9 (1 : Int32) M5) else none) else none
set_option maxRecDepth 100000 in
set_option maxHeartbeats 4000000 in
theorem tX4_hasRoom_0 {x9 : Cx} {K : Ct} {k9 : Nat} {M0 M9 : Mm} {r9 : Int32} (hE : Ce x9 K RX4 cX4_hasRoom 1 (some .boolean) 1 20 "hasRoom" M0) (v0 : Nat) (M : Mm) (h : fX4_hasRoom x9 k9 v0 M = some (r9, M9)) : Go x9 K 1 (Qf x9 K M0 (some (.int r9)) M9) 0 [(0, .ref v0)] [] M := by
  have hC := hE.1
  have hnm := hE.2.2.2.2.2.2.2.1
  unfold fX4_hasRoom at h
  refine go_aload_n hC dX4_hasRoom_0 rfl 0 rfl ?_
  obtain ⟨h1, h⟩ := os_1 h
  obtain ⟨b2, h3, h⟩ := os_b h
  refine go_getR 2 hC h1 rfl rfl h3 (C := RX4) (T := TX4) (N := 7) rfl inlX4 (by decide) m_21 (Or.inl rfl) dX4_hasRoom_1 ?_
  obtain ⟨h7, h⟩ := os_1 h
  obtain ⟨r4, M5, h6, h⟩ := os_c h
  refine go_callV (bytes := cJx4a65c_size_8abf5) (maxL := 1) (ret := (some .int)) (n := 0) (As := []) (st := []) hE (c_Jx4a65c_size_8abf5 K.2.1 h6) (by unfold okY; decide +kernel) rfl h7 rfl (C := RJx4a65c) (T := TJx4a65c) (N := 3) rfl m_159 m_156 m_157 m_158 m_19 rfl (by simp [Value.category]) (by decide) (by decide) dX4_hasRoom_4 ?_
  refine go_eq (pc' := 7) (st' := [.int r4]) (M' := M5) (lv' := [(0, .ref v0)]) ?_ rfl rfl rfl rfl
  refine go_sipush hC dX4_hasRoom_7 (v := (300 : Int32)) (by decide +kernel) ?_
  refine go_icmp_ge (t := 17) hC dX4_hasRoom_10 (by decide) (fun c8 => ?_) (fun c8 => ?_)
  · have h := os_t h c8
    refine go_iconst hC dX4_hasRoom_17 (v := (0 : Int32)) (by decide +kernel) ?_
    refine go_sub (lv' := []) [] rfl ?_
    exact tX4_hasRoom_18 hE _ _ h
  · have h := os_f h c8
    refine go_iconst hC dX4_hasRoom_13 (v := (1 : Int32)) (by decide +kernel) ?_
    refine go_goto (t := 18) hC dX4_hasRoom_14 (by decide) ?_
    refine go_sub (lv' := []) [] rfl ?_
    exact tX4_hasRoom_18 hE _ _ h
theorem c_X4_hasRoom (l : Launch) {x9 : Cx} {k9 : Nat} {M M9 : Mm} {r9 : Int32} {v0 : Nat} (h : fX4_hasRoom x9 k9 v0 M = some (r9, M9)) : Fn l x9 yX4_hasRoom cX4_hasRoom 1 (some .boolean) 1 20 [.ref v0] M (some (.int r9)) M9 :=
  Fn.of (by decide +kernel) (Nat.le_of_ble_eq_true rfl) rfl (fun K _ hE => tX4_hasRoom_0 hE _ _ h)
/-! X4_lockAt -/
def fX4_lockAt_33 (x9 : Cx) (k9 : Nat) (rec2 : Nat → Nat → Int32 → Int32 → Mm → Option (Unit × Mm)) (v0 : Nat) (v1 : Nat) (v2 : Int32) (v3 : Int32) (M : Mm) : Option (Unit × Mm) :=
  rec2 v0 v1 v2 (v3 + 1) M
set_option maxRecDepth 100000 in
set_option maxHeartbeats 4000000 in
theorem tX4_lockAt_33 {x9 : Cx} {K : Ct} {k9 : Nat} {M0 M9 : Mm} {r9 : Unit} (hE : Ce x9 K RX4 cX4_lockAt 4 none 3 65 "lockAt" M0) {rec2 : Nat → Nat → Int32 → Int32 → Mm → Option (Unit × Mm)} (hrec2 : ∀ (v0 : Nat) (v1 : Nat) (v2 : Int32) (v3 : Int32) (M : Mm), rec2 v0 v1 v2 v3 M = some (r9, M9) → Go x9 K 4 (Qf x9 K M0 none M9) 2 [(0, .ref v0), (1, .ref v1), (2, .int v2), (3, .int v3)] [] M) (v0 : Nat) (v1 : Nat) (v2 : Int32) (v3 : Int32) (M : Mm) (h : fX4_lockAt_33 x9 k9 rec2 v0 v1 v2 v3 M = some (r9, M9)) : Go x9 K 4 (Qf x9 K M0 none M9) 33 [(0, .ref v0), (1, .ref v1), (2, .int v2), (3, .int v3)] [] M := by
  have hC := hE.1
  have hnm := hE.2.2.2.2.2.2.2.1
  unfold fX4_lockAt_33 at h
  refine go_iinc (q := 3) (v := (v3 + 1)) (lv' := [(3, .int (v3 + 1)), (0, .ref v0), (1, .ref v1), (2, .int v2)]) hC dX4_lockAt_33 rfl rfl (by decide) rfl ?_
  refine go_goto (t := 2) hC dX4_lockAt_36 (by decide) ?_
  refine go_sub (lv' := [(0, .ref v0), (1, .ref v1), (2, .int v2), (3, .int (v3 + 1))]) [1, 2, 3, 0] rfl ?_
  exact hrec2 _ _ _ _ _ h
def fX4_lockAt_2 (x9 : Cx) (k9 : Nat) : Nat → Nat → Nat → Int32 → Int32 → Mm → Option (Unit × Mm)
  | 0, _, _, _, _, _ => none
  | n9 + 1, v0, v1, v2, v3, M => if (20 : Int32) ≤ v3 then some ((), M) else if mK M v0 = 5 then ob2 (fX4_hasWithHome x9 k9 v0 v1 v3 v2 M) (fun r2 M3 => if r2 = 0 then fX4_lockAt_33 x9 k9 (fX4_lockAt_2 x9 k9 n9) v0 v1 v2 v3 M3 else if mK M3 v0 = 5 then ob1 (mP M3 v0 0) (fun b8 => if (mK M3 b8 = 10 ∨ mK M3 b8 = 11) ∧ ¬ (v2 < 0 ∨ mN M3 b8 ≤ (v2).toNatClampNeg) then ob1 (mP M3 b8 (v2).toNatClampNeg) (fun b12 => if mK M3 b12 = 3 then ob1 (mP M3 b12 2) (fun b14 => if mK M3 v1 = 4 then if mK M3 b14 = 8 ∧ ¬ (v3 < 0 ∨ mN M3 b14 ≤ (v3).toNatClampNeg) then fX4_lockAt_33 x9 k9 (fX4_lockAt_2 x9 k9 n9) v0 v1 v2 v3 (sV M3 b14 (v3).toNatClampNeg (mV M3 v1 0)) else none else none) else none) else none) else none) else none
set_option maxRecDepth 100000 in
set_option maxHeartbeats 4000000 in
theorem tX4_lockAt_2 {x9 : Cx} {K : Ct} {k9 : Nat} {M0 M9 : Mm} {r9 : Unit} (hE : Ce x9 K RX4 cX4_lockAt 4 none 3 65 "lockAt" M0) : ∀ (n9 : Nat) (v0 : Nat) (v1 : Nat) (v2 : Int32) (v3 : Int32) (M : Mm), fX4_lockAt_2 x9 k9 n9 v0 v1 v2 v3 M = some (r9, M9) → Go x9 K 4 (Qf x9 K M0 none M9) 2 [(0, .ref v0), (1, .ref v1), (2, .int v2), (3, .int v3)] [] M := by
  have hC := hE.1
  have hnm := hE.2.2.2.2.2.2.2.1
  intro n9
  induction n9 with
  | zero => intro _ _ _ _ _ h; cases h
  | succ n9 ih =>
    intro v0 v1 v2 v3 M h
    rw [fX4_lockAt_2] at h
    refine go_iload_n hC dX4_lockAt_2 rfl 3 rfl ?_
    refine go_bipush hC dX4_lockAt_3 (v := (20 : Int32)) (by decide +kernel) ?_
    refine go_icmp_ge (t := 39) hC dX4_lockAt_5 (by decide) (fun c1 => ?_) (fun c1 => ?_)
    · have h := os_t h c1
      cases h
      exact go_vret hE dX4_lockAt_39
    · have h := os_f h c1
      refine go_aload_n hC dX4_lockAt_8 rfl 0 rfl ?_
      refine go_aload_n hC dX4_lockAt_9 rfl 1 rfl ?_
      refine go_iload_n hC dX4_lockAt_10 rfl 3 rfl ?_
      refine go_iload_n hC dX4_lockAt_11 rfl 2 rfl ?_
      obtain ⟨h5, h⟩ := os_1 h
      obtain ⟨r2, M3, h4, h⟩ := os_c h
      refine go_callV (bytes := cX4_hasWithHome) (maxL := 4) (ret := (some .boolean)) (n := 3) (As := [.ref v1, .int v3, .int v2]) (st := []) hE (c_X4_hasWithHome K.2.1 h4) (by unfold okY; decide +kernel) rfl h5 rfl (C := RX4) (T := TX4) (N := 7) rfl m_407 m_404 m_405 m_406 m_2 rfl (by simp [Value.category]) (by decide) (by decide) dX4_lockAt_12 ?_
      refine go_eq (pc' := 15) (st' := [.int r2]) (M' := M3) (lv' := [(0, .ref v0), (1, .ref v1), (2, .int v2), (3, .int v3)]) ?_ rfl rfl rfl rfl
      refine go_if_eq (t := 33) hC dX4_lockAt_15 (by decide) (fun c6 => ?_) (fun c6 => ?_)
      · have h := os_t h c6
        exact tX4_lockAt_33 hE ih _ _ _ _ _ h
      · have h := os_f h c6
        refine go_aload_n hC dX4_lockAt_18 rfl 0 rfl ?_
        obtain ⟨h7, h⟩ := os_1 h
        obtain ⟨b8, h9, h⟩ := os_b h
        refine go_getR 0 hC h7 rfl rfl h9 (C := RX4) (T := TX4) (N := 7) rfl inlX4 (by decide) m_14 (Or.inl rfl) dX4_lockAt_19 ?_
        refine go_iload_n hC dX4_lockAt_22 rfl 2 rfl ?_
        obtain ⟨h10, h⟩ := os_1 h
        obtain ⟨b12, h11, h⟩ := os_b h
        refine go_aald hC h10.1 h10.2 h11 dX4_lockAt_23 ?_
        obtain ⟨h13, h⟩ := os_1 h
        obtain ⟨b14, h15, h⟩ := os_b h
        refine go_getR 2 hC h13 rfl rfl h15 (C := RX2) (T := TX2) (N := 5) rfl inlX2 (by decide) m_412 (Or.inl rfl) dX4_lockAt_24 ?_
        refine go_iload_n hC dX4_lockAt_27 rfl 3 rfl ?_
        refine go_aload_n hC dX4_lockAt_28 rfl 1 rfl ?_
        obtain ⟨h16, h⟩ := os_1 h
        refine go_getV 0 hC h16 rfl rfl (C := RX3) (T := TX3) (N := 16) rfl inlX3 (by decide) m_413 (Or.inl rfl) dX4_lockAt_29 ?_
        obtain ⟨h17, h⟩ := os_1 h
        refine go_iast hC h17.1 h17.2 dX4_lockAt_32 ?_
        exact tX4_lockAt_33 hE ih _ _ _ _ _ h
def fX4_lockAt (x9 : Cx) (k9 : Nat) (v0 : Nat) (v1 : Nat) (v2 : Int32) (M : Mm) : Option (Unit × Mm) :=
  fX4_lockAt_2 x9 k9 k9 v0 v1 v2 (0 : Int32) M
set_option maxRecDepth 100000 in
set_option maxHeartbeats 4000000 in
theorem tX4_lockAt_0 {x9 : Cx} {K : Ct} {k9 : Nat} {M0 M9 : Mm} {r9 : Unit} (hE : Ce x9 K RX4 cX4_lockAt 4 none 3 65 "lockAt" M0) (v0 : Nat) (v1 : Nat) (v2 : Int32) (M : Mm) (h : fX4_lockAt x9 k9 v0 v1 v2 M = some (r9, M9)) : Go x9 K 4 (Qf x9 K M0 none M9) 0 [(0, .ref v0), (1, .ref v1), (2, .int v2)] [] M := by
  have hC := hE.1
  have hnm := hE.2.2.2.2.2.2.2.1
  unfold fX4_lockAt at h
  refine go_iconst hC dX4_lockAt_0 (v := (0 : Int32)) (by decide +kernel) ?_
  refine go_istore_n (lv' := [(3, .int (0 : Int32)), (0, .ref v0), (1, .ref v1), (2, .int v2)]) hC dX4_lockAt_1 rfl (by decide) rfl ?_
  refine go_sub (lv' := [(0, .ref v0), (1, .ref v1), (2, .int v2), (3, .int (0 : Int32))]) [1, 2, 3, 0] rfl ?_
  exact tX4_lockAt_2 hE k9 _ _ _ _ _ h
theorem c_X4_lockAt (l : Launch) {x9 : Cx} {k9 : Nat} {M M9 : Mm} {r9 : Unit} {v0 : Nat} {v1 : Nat} {v2 : Int32} (h : fX4_lockAt x9 k9 v0 v1 v2 M = some (r9, M9)) : Fn l x9 yX4_lockAt cX4_lockAt 4 none 3 65 [.ref v0, .ref v1, .int v2] M none M9 :=
  Fn.of (by decide +kernel) (Nat.le_of_ble_eq_true rfl) rfl (fun K _ hE => tX4_lockAt_0 hE _ _ _ _ h)
/-! X4_takeFree -/
def fX4_takeFree (x9 : Cx) (k9 : Nat) (v0 : Nat) (v1 : Nat) (v2 : Int32) (M : Mm) : Option (Unit × Mm) :=
  if mK M v0 = 5 then ob1 (mP M v0 0) (fun b2 => if (mK M b2 = 10 ∨ mK M b2 = 11) ∧ ¬ (v2 < 0 ∨ mN M b2 ≤ (v2).toNatClampNeg) then ob1 (mP M b2 (v2).toNatClampNeg) (fun b6 => if mK M v1 = 4 then if mK M b6 = 3 then ob2 (fX2_unlock x9 k9 b6 (mV M v1 0) M) (fun r8 M9 => if mK M9 v1 = 4 then ob2 (fX4_bit x9 k9 v2 M9) (fun r13 M14 => if mK M14 v1 = 4 then some ((), (sV M14 v1 14 ((mV M9 v1 14) ||| r13))) else none) else none) else none else none) else none) else none
set_option maxRecDepth 100000 in
set_option maxHeartbeats 4000000 in
theorem tX4_takeFree_0 {x9 : Cx} {K : Ct} {k9 : Nat} {M0 M9 : Mm} {r9 : Unit} (hE : Ce x9 K RX4 cX4_takeFree 3 none 1 22 "takeFree" M0) (v0 : Nat) (v1 : Nat) (v2 : Int32) (M : Mm) (h : fX4_takeFree x9 k9 v0 v1 v2 M = some (r9, M9)) : Go x9 K 3 (Qf x9 K M0 none M9) 0 [(0, .ref v0), (1, .ref v1), (2, .int v2)] [] M := by
  have hC := hE.1
  have hnm := hE.2.2.2.2.2.2.2.1
  unfold fX4_takeFree at h
  refine go_aload_n hC dX4_takeFree_0 rfl 0 rfl ?_
  obtain ⟨h1, h⟩ := os_1 h
  obtain ⟨b2, h3, h⟩ := os_b h
  refine go_getR 0 hC h1 rfl rfl h3 (C := RX4) (T := TX4) (N := 7) rfl inlX4 (by decide) m_14 (Or.inl rfl) dX4_takeFree_1 ?_
  refine go_iload_n hC dX4_takeFree_4 rfl 2 rfl ?_
  obtain ⟨h4, h⟩ := os_1 h
  obtain ⟨b6, h5, h⟩ := os_b h
  refine go_aald hC h4.1 h4.2 h5 dX4_takeFree_5 ?_
  refine go_aload_n hC dX4_takeFree_6 rfl 1 rfl ?_
  obtain ⟨h7, h⟩ := os_1 h
  refine go_getV 0 hC h7 rfl rfl (C := RX3) (T := TX3) (N := 16) rfl inlX3 (by decide) m_413 (Or.inl rfl) dX4_takeFree_7 ?_
  obtain ⟨h11, h⟩ := os_1 h
  obtain ⟨r8, M9, h10, h⟩ := os_c h
  refine go_callV (bytes := cX2_unlock) (maxL := 3) (ret := none) (n := 1) (As := [.int (mV M v1 0)]) (st := []) hE (c_X2_unlock K.2.1 h10) (by unfold okY; decide +kernel) rfl h11 rfl (C := RX2) (T := TX2) (N := 5) rfl m_434 m_589 m_432 m_433 m_16 rfl (by simp [Value.category]) (by decide) (by decide) dX4_takeFree_10 ?_
  refine go_eq (pc' := 13) (st' := []) (M' := M9) (lv' := [(0, .ref v0), (1, .ref v1), (2, .int v2)]) ?_ rfl rfl rfl rfl
  refine go_aload_n hC dX4_takeFree_13 rfl 1 rfl ?_
  refine go_dup hC dX4_takeFree_14 rfl ?_
  obtain ⟨h12, h⟩ := os_1 h
  refine go_getV 14 hC h12 rfl rfl (C := RX3) (T := TX3) (N := 16) rfl inlX3 (by decide) m_572 (Or.inl rfl) dX4_takeFree_15 ?_
  refine go_iload_n hC dX4_takeFree_18 rfl 2 rfl ?_
  obtain ⟨r13, M14, h15, h⟩ := os_c h
  refine go_callS (bytes := cX4_bit) (maxL := 1) (ret := (some .int)) (n := 1) (As := [.int v2]) (st := [.int (mV M9 v1 14), .ref v1]) hE (c_X4_bit K.2.1 h15) (by unfold okY; decide +kernel) rfl m_399 m_397 m_398 m_2 rfl (by simp [Value.category]) (by decide) (by decide) dX4_takeFree_19 ?_
  refine go_eq (pc' := 22) (st' := [.int r13, .int (mV M9 v1 14), .ref v1]) (M' := M14) (lv' := [(0, .ref v0), (1, .ref v1), (2, .int v2)]) ?_ rfl rfl rfl rfl
  refine go_ior hC dX4_takeFree_22 ?_
  obtain ⟨h17, h⟩ := os_1 h
  refine go_putV 14 hC h17 rfl rfl (C := RX3) (T := TX3) (N := 16) rfl inlX3 tyX3 tyX3_ok nmX3 (by decide) m_572 (Or.inl rfl) (Or.inl rfl) (tyX3_ok 14 (by decide)) rfl rfl dX4_takeFree_23 ?_
  cases h
  exact go_vret hE dX4_takeFree_26
theorem c_X4_takeFree (l : Launch) {x9 : Cx} {k9 : Nat} {M M9 : Mm} {r9 : Unit} {v0 : Nat} {v1 : Nat} {v2 : Int32} (h : fX4_takeFree x9 k9 v0 v1 v2 M = some (r9, M9)) : Fn l x9 yX4_takeFree cX4_takeFree 3 none 1 22 [.ref v0, .ref v1, .int v2] M none M9 :=
  Fn.of (by decide +kernel) (Nat.le_of_ble_eq_true rfl) rfl (fun K _ hE => tX4_takeFree_0 hE _ _ _ _ h)
/-! X4_loseIfOpen -/
def fX4_loseIfOpen_37 (x9 : Cx) (k9 : Nat) (M : Mm) : Option (Unit × Mm) :=
  some ((), M)
set_option maxRecDepth 100000 in
set_option maxHeartbeats 4000000 in
theorem tX4_loseIfOpen_37 {x9 : Cx} {K : Ct} {k9 : Nat} {M0 M9 : Mm} {r9 : Unit} (hE : Ce x9 K RX4 cX4_loseIfOpen 1 none 0 0 "loseIfOpen" M0) (M : Mm) (h : fX4_loseIfOpen_37 x9 k9 M = some (r9, M9)) : Go x9 K 1 (Qf x9 K M0 none M9) 37 [] [] M := by
  have hC := hE.1
  have hnm := hE.2.2.2.2.2.2.2.1
  unfold fX4_loseIfOpen_37 at h
  cases h
  exact go_vret hE dX4_loseIfOpen_37
def fX4_loseIfOpen_29 (x9 : Cx) (k9 : Nat) (v0 : Nat) (s0 : Nat) (s1 : Int32) (M : Mm) : Option (Unit × Mm) :=
  if mK M s0 = 4 ∧ (s1 = 0 ∨ s1 = 1) then if mK (sV M s0 15 s1) v0 = 4 then fX4_loseIfOpen_37 x9 k9 (sV (sV M s0 15 s1) v0 2 (4 : Int32)) else none else none
set_option maxRecDepth 100000 in
set_option maxHeartbeats 4000000 in
theorem tX4_loseIfOpen_29 {x9 : Cx} {K : Ct} {k9 : Nat} {M0 M9 : Mm} {r9 : Unit} (hE : Ce x9 K RX4 cX4_loseIfOpen 1 none 0 0 "loseIfOpen" M0) (v0 : Nat) (s0 : Nat) (s1 : Int32) (M : Mm) (h : fX4_loseIfOpen_29 x9 k9 v0 s0 s1 M = some (r9, M9)) : Go x9 K 1 (Qf x9 K M0 none M9) 29 [(0, .ref v0)] [.int s1, .ref s0] M := by
  have hC := hE.1
  have hnm := hE.2.2.2.2.2.2.2.1
  unfold fX4_loseIfOpen_29 at h
  obtain ⟨h1, h⟩ := os_1 h
  refine go_putV 15 hC h1.1 rfl rfl (C := RX3) (T := TX3) (N := 16) rfl inlX3 tyX3 tyX3_ok nmX3 (by decide) m_737 (Or.inl rfl) (Or.inl rfl) (tyX3_ok 15 (by decide)) (nar_z h1.2) (fit_z h1.2) dX4_loseIfOpen_29 ?_
  refine go_aload_n hC dX4_loseIfOpen_32 rfl 0 rfl ?_
  refine go_iconst hC dX4_loseIfOpen_33 (v := (4 : Int32)) (by decide +kernel) ?_
  obtain ⟨h2, h⟩ := os_1 h
  refine go_putV 2 hC h2 rfl rfl (C := RX3) (T := TX3) (N := 16) rfl inlX3 tyX3 tyX3_ok nmX3 (by decide) m_277 (Or.inl rfl) (Or.inl rfl) (tyX3_ok 2 (by decide)) rfl rfl dX4_loseIfOpen_34 ?_
  refine go_sub (lv' := []) [] rfl ?_
  exact tX4_loseIfOpen_37 hE _ h
def fX4_loseIfOpen_15 (x9 : Cx) (k9 : Nat) (v0 : Nat) (M : Mm) : Option (Unit × Mm) :=
  if mK M v0 = 4 then if (mV M v0 2) = (1 : Int32) then fX4_loseIfOpen_29 x9 k9 v0 v0 (1 : Int32) M else fX4_loseIfOpen_29 x9 k9 v0 v0 (0 : Int32) M else none
set_option maxRecDepth 100000 in
set_option maxHeartbeats 4000000 in
theorem tX4_loseIfOpen_15 {x9 : Cx} {K : Ct} {k9 : Nat} {M0 M9 : Mm} {r9 : Unit} (hE : Ce x9 K RX4 cX4_loseIfOpen 1 none 0 0 "loseIfOpen" M0) (v0 : Nat) (M : Mm) (h : fX4_loseIfOpen_15 x9 k9 v0 M = some (r9, M9)) : Go x9 K 1 (Qf x9 K M0 none M9) 15 [(0, .ref v0)] [] M := by
  have hC := hE.1
  have hnm := hE.2.2.2.2.2.2.2.1
  unfold fX4_loseIfOpen_15 at h
  refine go_aload_n hC dX4_loseIfOpen_15 rfl 0 rfl ?_
  refine go_aload_n hC dX4_loseIfOpen_16 rfl 0 rfl ?_
  obtain ⟨h1, h⟩ := os_1 h
  refine go_getV 2 hC h1 rfl rfl (C := RX3) (T := TX3) (N := 16) rfl inlX3 (by decide) m_277 (Or.inl rfl) dX4_loseIfOpen_17 ?_
  refine go_iconst hC dX4_loseIfOpen_20 (v := (1 : Int32)) (by decide +kernel) ?_
  refine go_icmp_ne (t := 28) hC dX4_loseIfOpen_21 (by decide) (fun c2 => ?_) (fun c2 => ?_)
  · have h := os_f h c2
    refine go_iconst hC dX4_loseIfOpen_28 (v := (0 : Int32)) (by decide +kernel) ?_
    exact tX4_loseIfOpen_29 hE _ _ _ _ h
  · have h := os_t h c2
    refine go_iconst hC dX4_loseIfOpen_24 (v := (1 : Int32)) (by decide +kernel) ?_
    refine go_goto (t := 29) hC dX4_loseIfOpen_25 (by decide) ?_
    exact tX4_loseIfOpen_29 hE _ _ _ _ h
def fX4_loseIfOpen (x9 : Cx) (k9 : Nat) (v0 : Nat) (M : Mm) : Option (Unit × Mm) :=
  if mK M v0 = 4 then if (mV M v0 2) = 0 then fX4_loseIfOpen_15 x9 k9 v0 M else if mK M v0 = 4 then if (mV M v0 2) = (1 : Int32) then fX4_loseIfOpen_15 x9 k9 v0 M else fX4_loseIfOpen_37 x9 k9 M else none else none
set_option maxRecDepth 100000 in
set_option maxHeartbeats 4000000 in
theorem tX4_loseIfOpen_0 {x9 : Cx} {K : Ct} {k9 : Nat} {M0 M9 : Mm} {r9 : Unit} (hE : Ce x9 K RX4 cX4_loseIfOpen 1 none 0 0 "loseIfOpen" M0) (v0 : Nat) (M : Mm) (h : fX4_loseIfOpen x9 k9 v0 M = some (r9, M9)) : Go x9 K 1 (Qf x9 K M0 none M9) 0 [(0, .ref v0)] [] M := by
  have hC := hE.1
  have hnm := hE.2.2.2.2.2.2.2.1
  unfold fX4_loseIfOpen at h
  refine go_aload_n hC dX4_loseIfOpen_0 rfl 0 rfl ?_
  obtain ⟨h1, h⟩ := os_1 h
  refine go_getV 2 hC h1 rfl rfl (C := RX3) (T := TX3) (N := 16) rfl inlX3 (by decide) m_277 (Or.inl rfl) dX4_loseIfOpen_1 ?_
  refine go_if_eq (t := 15) hC dX4_loseIfOpen_4 (by decide) (fun c2 => ?_) (fun c2 => ?_)
  · have h := os_t h c2
    exact tX4_loseIfOpen_15 hE _ _ h
  · have h := os_f h c2
    refine go_aload_n hC dX4_loseIfOpen_7 rfl 0 rfl ?_
    obtain ⟨h3, h⟩ := os_1 h
    refine go_getV 2 hC h3 rfl rfl (C := RX3) (T := TX3) (N := 16) rfl inlX3 (by decide) m_277 (Or.inl rfl) dX4_loseIfOpen_8 ?_
    refine go_iconst hC dX4_loseIfOpen_11 (v := (1 : Int32)) (by decide +kernel) ?_
    refine go_icmp_ne (t := 37) hC dX4_loseIfOpen_12 (by decide) (fun c4 => ?_) (fun c4 => ?_)
    · have h := os_f h c4
      refine go_sub (lv' := []) [] rfl ?_
      exact tX4_loseIfOpen_37 hE _ h
    · have h := os_t h c4
      exact tX4_loseIfOpen_15 hE _ _ h
theorem c_X4_loseIfOpen (l : Launch) {x9 : Cx} {k9 : Nat} {M M9 : Mm} {r9 : Unit} {v0 : Nat} (h : fX4_loseIfOpen x9 k9 v0 M = some (r9, M9)) : Fn l x9 yX4_loseIfOpen cX4_loseIfOpen 1 none 0 0 [.ref v0] M none M9 :=
  Fn.of (by decide +kernel) (Nat.le_of_ble_eq_true rfl) rfl (fun K _ hE => tX4_loseIfOpen_0 hE _ _ h)
/-! X4_sitesUp -/
def fX4_sitesUp_27 (x9 : Cx) (k9 : Nat) (rec4 : Nat → Int32 → Int32 → Mm → Option (Int32 × Mm)) (v0 : Nat) (v1 : Int32) (v2 : Int32) (M : Mm) : Option (Int32 × Mm) :=
  rec4 v0 v1 (v2 + 1) M
set_option maxRecDepth 100000 in
set_option maxHeartbeats 4000000 in
theorem tX4_sitesUp_27 {x9 : Cx} {K : Ct} {k9 : Nat} {M0 M9 : Mm} {r9 : Int32} (hE : Ce x9 K RX4 cX4_sitesUp 3 (some .int) 0 0 "sitesUp" M0) {rec4 : Nat → Int32 → Int32 → Mm → Option (Int32 × Mm)} (hrec4 : ∀ (v0 : Nat) (v1 : Int32) (v2 : Int32) (M : Mm), rec4 v0 v1 v2 M = some (r9, M9) → Go x9 K 3 (Qf x9 K M0 (some (.int r9)) M9) 4 [(0, .ref v0), (1, .int v1), (2, .int v2)] [] M) (v0 : Nat) (v1 : Int32) (v2 : Int32) (M : Mm) (h : fX4_sitesUp_27 x9 k9 rec4 v0 v1 v2 M = some (r9, M9)) : Go x9 K 3 (Qf x9 K M0 (some (.int r9)) M9) 27 [(0, .ref v0), (1, .int v1), (2, .int v2)] [] M := by
  have hC := hE.1
  have hnm := hE.2.2.2.2.2.2.2.1
  unfold fX4_sitesUp_27 at h
  refine go_iinc (q := 2) (v := (v2 + 1)) (lv' := [(2, .int (v2 + 1)), (0, .ref v0), (1, .int v1)]) hC dX4_sitesUp_27 rfl rfl (by decide) rfl ?_
  refine go_goto (t := 4) hC dX4_sitesUp_30 (by decide) ?_
  refine go_sub (lv' := [(0, .ref v0), (1, .int v1), (2, .int (v2 + 1))]) [1, 2, 0] rfl ?_
  exact hrec4 _ _ _ _ h
def fX4_sitesUp_4 (x9 : Cx) (k9 : Nat) : Nat → Nat → Int32 → Int32 → Mm → Option (Int32 × Mm)
  | 0, _, _, _, _ => none
  | n9 + 1, v0, v1, v2, M => if mK M v0 = 5 then if (mV M v0 4) ≤ v2 then some (v1, M) else if mK M v0 = 5 then ob1 (mP M v0 0) (fun b4 => if (mK M b4 = 10 ∨ mK M b4 = 11) ∧ ¬ (v2 < 0 ∨ mN M b4 ≤ (v2).toNatClampNeg) then ob1 (mP M b4 (v2).toNatClampNeg) (fun b8 => if mK M b8 = 3 then if (mV M b8 0) = 0 then fX4_sitesUp_27 x9 k9 (fX4_sitesUp_4 x9 k9 n9) v0 v1 v2 M else fX4_sitesUp_27 x9 k9 (fX4_sitesUp_4 x9 k9 n9) v0 (v1 + 1) v2 M else none) else none) else none else none
set_option maxRecDepth 100000 in
set_option maxHeartbeats 4000000 in
theorem tX4_sitesUp_4 {x9 : Cx} {K : Ct} {k9 : Nat} {M0 M9 : Mm} {r9 : Int32} (hE : Ce x9 K RX4 cX4_sitesUp 3 (some .int) 0 0 "sitesUp" M0) : ∀ (n9 : Nat) (v0 : Nat) (v1 : Int32) (v2 : Int32) (M : Mm), fX4_sitesUp_4 x9 k9 n9 v0 v1 v2 M = some (r9, M9) → Go x9 K 3 (Qf x9 K M0 (some (.int r9)) M9) 4 [(0, .ref v0), (1, .int v1), (2, .int v2)] [] M := by
  have hC := hE.1
  have hnm := hE.2.2.2.2.2.2.2.1
  intro n9
  induction n9 with
  | zero => intro _ _ _ _ h; cases h
  | succ n9 ih =>
    intro v0 v1 v2 M h
    rw [fX4_sitesUp_4] at h
    refine go_iload_n hC dX4_sitesUp_4 rfl 2 rfl ?_
    refine go_aload_n hC dX4_sitesUp_5 rfl 0 rfl ?_
    obtain ⟨h1, h⟩ := os_1 h
    refine go_getV 4 hC h1 rfl rfl (C := RX4) (T := TX4) (N := 7) rfl inlX4 (by decide) m_55 (Or.inl rfl) dX4_sitesUp_6 ?_
    refine go_icmp_ge (t := 33) hC dX4_sitesUp_9 (by decide) (fun c2 => ?_) (fun c2 => ?_)
    · have h := os_t h c2
      refine go_iload_n hC dX4_sitesUp_33 rfl 1 rfl ?_
      cases h
      exact go_iret hE dX4_sitesUp_34
    · have h := os_f h c2
      refine go_aload_n hC dX4_sitesUp_12 rfl 0 rfl ?_
      obtain ⟨h3, h⟩ := os_1 h
      obtain ⟨b4, h5, h⟩ := os_b h
      refine go_getR 0 hC h3 rfl rfl h5 (C := RX4) (T := TX4) (N := 7) rfl inlX4 (by decide) m_14 (Or.inl rfl) dX4_sitesUp_13 ?_
      refine go_iload_n hC dX4_sitesUp_16 rfl 2 rfl ?_
      obtain ⟨h6, h⟩ := os_1 h
      obtain ⟨b8, h7, h⟩ := os_b h
      refine go_aald hC h6.1 h6.2 h7 dX4_sitesUp_17 ?_
      obtain ⟨h9, h⟩ := os_1 h
      refine go_getV 0 hC h9 rfl rfl (C := RX2) (T := TX2) (N := 5) rfl inlX2 (by decide) m_141 (Or.inl rfl) dX4_sitesUp_18 ?_
      refine go_if_eq (t := 27) hC dX4_sitesUp_21 (by decide) (fun c10 => ?_) (fun c10 => ?_)
      · have h := os_t h c10
        exact tX4_sitesUp_27 hE ih _ _ _ _ h
      · have h := os_f h c10
        refine go_iinc (q := 1) (v := (v1 + 1)) (lv' := [(1, .int (v1 + 1)), (0, .ref v0), (2, .int v2)]) hC dX4_sitesUp_24 rfl rfl (by decide) rfl ?_
        refine go_sub (lv' := [(0, .ref v0), (1, .int (v1 + 1)), (2, .int v2)]) [1, 0, 2] rfl ?_
        exact tX4_sitesUp_27 hE ih _ _ _ _ h
def fX4_sitesUp (x9 : Cx) (k9 : Nat) (v0 : Nat) (M : Mm) : Option (Int32 × Mm) :=
  fX4_sitesUp_4 x9 k9 k9 v0 (0 : Int32) (0 : Int32) M
set_option maxRecDepth 100000 in
set_option maxHeartbeats 4000000 in
theorem tX4_sitesUp_0 {x9 : Cx} {K : Ct} {k9 : Nat} {M0 M9 : Mm} {r9 : Int32} (hE : Ce x9 K RX4 cX4_sitesUp 3 (some .int) 0 0 "sitesUp" M0) (v0 : Nat) (M : Mm) (h : fX4_sitesUp x9 k9 v0 M = some (r9, M9)) : Go x9 K 3 (Qf x9 K M0 (some (.int r9)) M9) 0 [(0, .ref v0)] [] M := by
  have hC := hE.1
  have hnm := hE.2.2.2.2.2.2.2.1
  unfold fX4_sitesUp at h
  refine go_iconst hC dX4_sitesUp_0 (v := (0 : Int32)) (by decide +kernel) ?_
  refine go_istore_n (lv' := [(1, .int (0 : Int32)), (0, .ref v0)]) hC dX4_sitesUp_1 rfl (by decide) rfl ?_
  refine go_iconst hC dX4_sitesUp_2 (v := (0 : Int32)) (by decide +kernel) ?_
  refine go_istore_n (lv' := [(2, .int (0 : Int32)), (1, .int (0 : Int32)), (0, .ref v0)]) hC dX4_sitesUp_3 rfl (by decide) rfl ?_
  refine go_sub (lv' := [(0, .ref v0), (1, .int (0 : Int32)), (2, .int (0 : Int32))]) [2, 1, 0] rfl ?_
  exact tX4_sitesUp_4 hE k9 _ _ _ _ h
theorem c_X4_sitesUp (l : Launch) {x9 : Cx} {k9 : Nat} {M M9 : Mm} {r9 : Int32} {v0 : Nat} (h : fX4_sitesUp x9 k9 v0 M = some (r9, M9)) : Fn l x9 yX4_sitesUp cX4_sitesUp 3 (some .int) 0 0 [.ref v0] M (some (.int r9)) M9 :=
  Fn.of (by decide +kernel) (Nat.le_of_ble_eq_true rfl) rfl (fun K _ hE => tX4_sitesUp_0 hE _ _ h)
/-! X4_homesOf -/
def fX4_homesOf_29 (x9 : Cx) (k9 : Nat) (rec4 : Nat → Nat → Int32 → Int32 → Mm → Option (Int32 × Mm)) (v0 : Nat) (v1 : Nat) (v2 : Int32) (v3 : Int32) (M : Mm) : Option (Int32 × Mm) :=
  rec4 v0 v1 v2 (v3 + 1) M
set_option maxRecDepth 100000 in
set_option maxHeartbeats 4000000 in
theorem tX4_homesOf_29 {x9 : Cx} {K : Ct} {k9 : Nat} {M0 M9 : Mm} {r9 : Int32} (hE : Ce x9 K RX4 cX4_homesOf 4 (some .int) 2 42 "homesOf" M0) {rec4 : Nat → Nat → Int32 → Int32 → Mm → Option (Int32 × Mm)} (hrec4 : ∀ (v0 : Nat) (v1 : Nat) (v2 : Int32) (v3 : Int32) (M : Mm), rec4 v0 v1 v2 v3 M = some (r9, M9) → Go x9 K 4 (Qf x9 K M0 (some (.int r9)) M9) 4 [(0, .ref v0), (1, .ref v1), (2, .int v2), (3, .int v3)] [] M) (v0 : Nat) (v1 : Nat) (v2 : Int32) (v3 : Int32) (M : Mm) (h : fX4_homesOf_29 x9 k9 rec4 v0 v1 v2 v3 M = some (r9, M9)) : Go x9 K 4 (Qf x9 K M0 (some (.int r9)) M9) 29 [(0, .ref v0), (1, .ref v1), (2, .int v2), (3, .int v3)] [] M := by
  have hC := hE.1
  have hnm := hE.2.2.2.2.2.2.2.1
  unfold fX4_homesOf_29 at h
  refine go_iinc (q := 3) (v := (v3 + 1)) (lv' := [(3, .int (v3 + 1)), (0, .ref v0), (1, .ref v1), (2, .int v2)]) hC dX4_homesOf_29 rfl rfl (by decide) rfl ?_
  refine go_goto (t := 4) hC dX4_homesOf_32 (by decide) ?_
  refine go_sub (lv' := [(0, .ref v0), (1, .ref v1), (2, .int v2), (3, .int (v3 + 1))]) [1, 2, 3, 0] rfl ?_
  exact hrec4 _ _ _ _ _ h
def fX4_homesOf_4 (x9 : Cx) (k9 : Nat) : Nat → Nat → Nat → Int32 → Int32 → Mm → Option (Int32 × Mm)
  | 0, _, _, _, _, _ => none
  | n9 + 1, v0, v1, v2, v3, M => if (20 : Int32) ≤ v3 then some (v2, M) else if mK M v1 = 4 then ob2 (fX3_wrote x9 k9 v1 v3 M) (fun r2 M3 => if r2 = 0 then fX4_homesOf_29 x9 k9 (fX4_homesOf_4 x9 k9 n9) v0 v1 v2 v3 M3 else if mK M3 v0 = 5 then ob2 (fX4_homeOf x9 k9 v0 v3 M3) (fun r7 M8 => ob2 (fX4_bit x9 k9 r7 M8) (fun r11 M12 => fX4_homesOf_29 x9 k9 (fX4_homesOf_4 x9 k9 n9) v0 v1 (v2 ||| r11) v3 M12)) else none) else none
set_option maxRecDepth 100000 in
set_option maxHeartbeats 4000000 in
theorem tX4_homesOf_4 {x9 : Cx} {K : Ct} {k9 : Nat} {M0 M9 : Mm} {r9 : Int32} (hE : Ce x9 K RX4 cX4_homesOf 4 (some .int) 2 42 "homesOf" M0) : ∀ (n9 : Nat) (v0 : Nat) (v1 : Nat) (v2 : Int32) (v3 : Int32) (M : Mm), fX4_homesOf_4 x9 k9 n9 v0 v1 v2 v3 M = some (r9, M9) → Go x9 K 4 (Qf x9 K M0 (some (.int r9)) M9) 4 [(0, .ref v0), (1, .ref v1), (2, .int v2), (3, .int v3)] [] M := by
  have hC := hE.1
  have hnm := hE.2.2.2.2.2.2.2.1
  intro n9
  induction n9 with
  | zero => intro _ _ _ _ _ h; cases h
  | succ n9 ih =>
    intro v0 v1 v2 v3 M h
    rw [fX4_homesOf_4] at h
    refine go_iload_n hC dX4_homesOf_4 rfl 3 rfl ?_
    refine go_bipush hC dX4_homesOf_5 (v := (20 : Int32)) (by decide +kernel) ?_
    refine go_icmp_ge (t := 35) hC dX4_homesOf_7 (by decide) (fun c1 => ?_) (fun c1 => ?_)
    · have h := os_t h c1
      refine go_iload_n hC dX4_homesOf_35 rfl 2 rfl ?_
      cases h
      exact go_iret hE dX4_homesOf_36
    · have h := os_f h c1
      refine go_aload_n hC dX4_homesOf_10 rfl 1 rfl ?_
      refine go_iload_n hC dX4_homesOf_11 rfl 3 rfl ?_
      obtain ⟨h5, h⟩ := os_1 h
      obtain ⟨r2, M3, h4, h⟩ := os_c h
      refine go_callV (bytes := cX3_wrote) (maxL := 2) (ret := (some .boolean)) (n := 1) (As := [.int v3]) (st := []) hE (c_X3_wrote K.2.1 h4) (by unfold okY; decide +kernel) rfl h5 rfl (C := RX3) (T := TX3) (N := 16) rfl m_281 m_278 m_279 m_280 m_144 rfl (by simp [Value.category]) (by decide) (by decide) dX4_homesOf_12 ?_
      refine go_eq (pc' := 15) (st' := [.int r2]) (M' := M3) (lv' := [(0, .ref v0), (1, .ref v1), (2, .int v2), (3, .int v3)]) ?_ rfl rfl rfl rfl
      refine go_if_eq (t := 29) hC dX4_homesOf_15 (by decide) (fun c6 => ?_) (fun c6 => ?_)
      · have h := os_t h c6
        exact tX4_homesOf_29 hE ih _ _ _ _ _ h
      · have h := os_f h c6
        refine go_iload_n hC dX4_homesOf_18 rfl 2 rfl ?_
        refine go_aload_n hC dX4_homesOf_19 rfl 0 rfl ?_
        refine go_iload_n hC dX4_homesOf_20 rfl 3 rfl ?_
        obtain ⟨h10, h⟩ := os_1 h
        obtain ⟨r7, M8, h9, h⟩ := os_c h
        refine go_callV (bytes := cX4_homeOf) (maxL := 2) (ret := (some .int)) (n := 1) (As := [.int v3]) (st := [.int v2]) hE (c_X4_homeOf K.2.1 h9) (by unfold okY; decide +kernel) rfl h10 rfl (C := RX4) (T := TX4) (N := 7) rfl m_396 m_393 m_394 m_395 m_2 rfl (by simp [Value.category]) (by decide) (by decide) dX4_homesOf_21 ?_
        refine go_eq (pc' := 24) (st' := [.int r7, .int v2]) (M' := M8) (lv' := [(0, .ref v0), (1, .ref v1), (2, .int v2), (3, .int v3)]) ?_ rfl rfl rfl rfl
        obtain ⟨r11, M12, h13, h⟩ := os_c h
        refine go_callS (bytes := cX4_bit) (maxL := 1) (ret := (some .int)) (n := 1) (As := [.int r7]) (st := [.int v2]) hE (c_X4_bit K.2.1 h13) (by unfold okY; decide +kernel) rfl m_399 m_397 m_398 m_2 rfl (by simp [Value.category]) (by decide) (by decide) dX4_homesOf_24 ?_
        refine go_eq (pc' := 27) (st' := [.int r11, .int v2]) (M' := M12) (lv' := [(0, .ref v0), (1, .ref v1), (2, .int v2), (3, .int v3)]) ?_ rfl rfl rfl rfl
        refine go_ior hC dX4_homesOf_27 ?_
        refine go_istore_n (lv' := [(2, .int (v2 ||| r11)), (0, .ref v0), (1, .ref v1), (3, .int v3)]) hC dX4_homesOf_28 rfl (by decide) rfl ?_
        refine go_sub (lv' := [(0, .ref v0), (1, .ref v1), (2, .int (v2 ||| r11)), (3, .int v3)]) [1, 2, 0, 3] rfl ?_
        exact tX4_homesOf_29 hE ih _ _ _ _ _ h
def fX4_homesOf (x9 : Cx) (k9 : Nat) (v0 : Nat) (v1 : Nat) (M : Mm) : Option (Int32 × Mm) :=
  fX4_homesOf_4 x9 k9 k9 v0 v1 (0 : Int32) (0 : Int32) M
set_option maxRecDepth 100000 in
set_option maxHeartbeats 4000000 in
theorem tX4_homesOf_0 {x9 : Cx} {K : Ct} {k9 : Nat} {M0 M9 : Mm} {r9 : Int32} (hE : Ce x9 K RX4 cX4_homesOf 4 (some .int) 2 42 "homesOf" M0) (v0 : Nat) (v1 : Nat) (M : Mm) (h : fX4_homesOf x9 k9 v0 v1 M = some (r9, M9)) : Go x9 K 4 (Qf x9 K M0 (some (.int r9)) M9) 0 [(0, .ref v0), (1, .ref v1)] [] M := by
  have hC := hE.1
  have hnm := hE.2.2.2.2.2.2.2.1
  unfold fX4_homesOf at h
  refine go_iconst hC dX4_homesOf_0 (v := (0 : Int32)) (by decide +kernel) ?_
  refine go_istore_n (lv' := [(2, .int (0 : Int32)), (0, .ref v0), (1, .ref v1)]) hC dX4_homesOf_1 rfl (by decide) rfl ?_
  refine go_iconst hC dX4_homesOf_2 (v := (0 : Int32)) (by decide +kernel) ?_
  refine go_istore_n (lv' := [(3, .int (0 : Int32)), (2, .int (0 : Int32)), (0, .ref v0), (1, .ref v1)]) hC dX4_homesOf_3 rfl (by decide) rfl ?_
  refine go_sub (lv' := [(0, .ref v0), (1, .ref v1), (2, .int (0 : Int32)), (3, .int (0 : Int32))]) [2, 3, 1, 0] rfl ?_
  exact tX4_homesOf_4 hE k9 _ _ _ _ _ h
theorem c_X4_homesOf (l : Launch) {x9 : Cx} {k9 : Nat} {M M9 : Mm} {r9 : Int32} {v0 : Nat} {v1 : Nat} (h : fX4_homesOf x9 k9 v0 v1 M = some (r9, M9)) : Fn l x9 yX4_homesOf cX4_homesOf 4 (some .int) 2 42 [.ref v0, .ref v1] M (some (.int r9)) M9 :=
  Fn.of (by decide +kernel) (Nat.le_of_ble_eq_true rfl) rfl (fun K _ hE => tX4_homesOf_0 hE _ _ _ h)
/-! X4_startAfresh -/
def fX4_startAfresh_2 (x9 : Cx) (k9 : Nat) : Nat → Nat → Int32 → Int32 → Mm → Option (Unit × Mm)
  | 0, _, _, _, _ => none
  | n9 + 1, v0, v1, v2, M => if (5 : Int32) ≤ v2 then if mK M v0 = 5 then ob1 (mP M v0 2) (fun b3 => if mK M b3 = 7 then ob2 (fJx4a65c_clear_da8c8 x9 k9 b3 M) (fun r5 M6 => if mK M6 v0 = 5 then if mK (sV M6 v0 4 v1) v0 = 5 then if mK (sV (sV M6 v0 4 v1) v0 5 (0 : Int32)) v0 = 5 then some ((), (sV (sV (sV M6 v0 4 v1) v0 5 (0 : Int32)) v0 6 (0 : Int32))) else none else none else none) else none) else none else if mK M v0 = 5 then ob1 (mP M v0 0) (fun b13 => if (mK M b13 = 10 ∨ mK M b13 = 11) ∧ ¬ (v2 < 0 ∨ mN M b13 ≤ (v2).toNatClampNeg) then ob1 (mP M b13 (v2).toNatClampNeg) (fun b17 => if mK M b17 = 3 then ob2 (fX2_clear x9 k9 b17 M) (fun r18 M19 => fX4_startAfresh_2 x9 k9 n9 v0 v1 (v2 + 1) M19) else none) else none) else none
set_option maxRecDepth 100000 in
set_option maxHeartbeats 4000000 in
theorem tX4_startAfresh_2 {x9 : Cx} {K : Ct} {k9 : Nat} {M0 M9 : Mm} {r9 : Unit} (hE : Ce x9 K RX4 cX4_startAfresh 3 none 1 23 "startAfresh" M0) : ∀ (n9 : Nat) (v0 : Nat) (v1 : Int32) (v2 : Int32) (M : Mm), fX4_startAfresh_2 x9 k9 n9 v0 v1 v2 M = some (r9, M9) → Go x9 K 3 (Qf x9 K M0 none M9) 2 [(0, .ref v0), (1, .int v1), (2, .int v2)] [] M := by
  have hC := hE.1
  have hnm := hE.2.2.2.2.2.2.2.1
  intro n9
  induction n9 with
  | zero => intro _ _ _ _ h; cases h
  | succ n9 ih =>
    intro v0 v1 v2 M h
    rw [fX4_startAfresh_2] at h
    refine go_iload_n hC dX4_startAfresh_2 rfl 2 rfl ?_
    refine go_iconst hC dX4_startAfresh_3 (v := (5 : Int32)) (by decide +kernel) ?_
    refine go_icmp_ge (t := 22) hC dX4_startAfresh_4 (by decide) (fun c1 => ?_) (fun c1 => ?_)
    · have h := os_t h c1
      refine go_aload_n hC dX4_startAfresh_22 rfl 0 rfl ?_
      obtain ⟨h2, h⟩ := os_1 h
      obtain ⟨b3, h4, h⟩ := os_b h
      refine go_getR 2 hC h2 rfl rfl h4 (C := RX4) (T := TX4) (N := 7) rfl inlX4 (by decide) m_21 (Or.inl rfl) dX4_startAfresh_23 ?_
      obtain ⟨h8, h⟩ := os_1 h
      obtain ⟨r5, M6, h7, h⟩ := os_c h
      refine go_callV (bytes := cJx4a65c_clear_da8c8) (maxL := 4) (ret := none) (n := 0) (As := []) (st := []) hE (c_Jx4a65c_clear_da8c8 K.2.1 h7) (by unfold okY; decide +kernel) rfl h8 rfl (C := RJx4a65c) (T := TJx4a65c) (N := 3) rfl m_67 m_64 m_65 m_66 m_19 rfl (by simp [Value.category]) (by decide) (by decide) dX4_startAfresh_26 ?_
      refine go_eq (pc' := 29) (st' := []) (M' := M6) (lv' := [(0, .ref v0), (1, .int v1), (2, .int v2)]) ?_ rfl rfl rfl rfl
      refine go_aload_n hC dX4_startAfresh_29 rfl 0 rfl ?_
      refine go_iload_n hC dX4_startAfresh_30 rfl 1 rfl ?_
      obtain ⟨h9, h⟩ := os_1 h
      refine go_putV 4 hC h9 rfl rfl (C := RX4) (T := TX4) (N := 7) rfl inlX4 tyX4 tyX4_ok nmX4 (by decide) m_55 (Or.inl rfl) (Or.inl rfl) (tyX4_ok 4 (by decide)) rfl rfl dX4_startAfresh_31 ?_
      refine go_aload_n hC dX4_startAfresh_34 rfl 0 rfl ?_
      refine go_iconst hC dX4_startAfresh_35 (v := (0 : Int32)) (by decide +kernel) ?_
      obtain ⟨h10, h⟩ := os_1 h
      refine go_putV 5 hC h10 rfl rfl (C := RX4) (T := TX4) (N := 7) rfl inlX4 tyX4 tyX4_ok nmX4 (by decide) m_56 (Or.inl rfl) (Or.inl rfl) (tyX4_ok 5 (by decide)) rfl rfl dX4_startAfresh_36 ?_
      refine go_aload_n hC dX4_startAfresh_39 rfl 0 rfl ?_
      refine go_iconst hC dX4_startAfresh_40 (v := (0 : Int32)) (by decide +kernel) ?_
      obtain ⟨h11, h⟩ := os_1 h
      refine go_putV 6 hC h11 rfl rfl (C := RX4) (T := TX4) (N := 7) rfl inlX4 tyX4 tyX4_ok nmX4 (by decide) m_57 (Or.inl rfl) (Or.inl rfl) (tyX4_ok 6 (by decide)) rfl rfl dX4_startAfresh_41 ?_
      cases h
      exact go_vret hE dX4_startAfresh_44
    · have h := os_f h c1
      refine go_aload_n hC dX4_startAfresh_7 rfl 0 rfl ?_
      obtain ⟨h12, h⟩ := os_1 h
      obtain ⟨b13, h14, h⟩ := os_b h
      refine go_getR 0 hC h12 rfl rfl h14 (C := RX4) (T := TX4) (N := 7) rfl inlX4 (by decide) m_14 (Or.inl rfl) dX4_startAfresh_8 ?_
      refine go_iload_n hC dX4_startAfresh_11 rfl 2 rfl ?_
      obtain ⟨h15, h⟩ := os_1 h
      obtain ⟨b17, h16, h⟩ := os_b h
      refine go_aald hC h15.1 h15.2 h16 dX4_startAfresh_12 ?_
      obtain ⟨h21, h⟩ := os_1 h
      obtain ⟨r18, M19, h20, h⟩ := os_c h
      refine go_callV (bytes := cX2_clear) (maxL := 2) (ret := none) (n := 0) (As := []) (st := []) hE (c_X2_clear K.2.1 h20) (by unfold okY; decide +kernel) rfl h21 rfl (C := RX2) (T := TX2) (N := 5) rfl m_61 m_58 m_59 m_60 m_16 rfl (by simp [Value.category]) (by decide) (by decide) dX4_startAfresh_13 ?_
      refine go_eq (pc' := 16) (st' := []) (M' := M19) (lv' := [(0, .ref v0), (1, .int v1), (2, .int v2)]) ?_ rfl rfl rfl rfl
      refine go_iinc (q := 2) (v := (v2 + 1)) (lv' := [(2, .int (v2 + 1)), (0, .ref v0), (1, .int v1)]) hC dX4_startAfresh_16 rfl rfl (by decide) rfl ?_
      refine go_goto (t := 2) hC dX4_startAfresh_19 (by decide) ?_
      refine go_sub (lv' := [(0, .ref v0), (1, .int v1), (2, .int (v2 + 1))]) [1, 2, 0] rfl ?_
      exact ih _ _ _ _ h
def fX4_startAfresh (x9 : Cx) (k9 : Nat) (v0 : Nat) (v1 : Int32) (M : Mm) : Option (Unit × Mm) :=
  fX4_startAfresh_2 x9 k9 k9 v0 v1 (0 : Int32) M
set_option maxRecDepth 100000 in
set_option maxHeartbeats 4000000 in
theorem tX4_startAfresh_0 {x9 : Cx} {K : Ct} {k9 : Nat} {M0 M9 : Mm} {r9 : Unit} (hE : Ce x9 K RX4 cX4_startAfresh 3 none 1 23 "startAfresh" M0) (v0 : Nat) (v1 : Int32) (M : Mm) (h : fX4_startAfresh x9 k9 v0 v1 M = some (r9, M9)) : Go x9 K 3 (Qf x9 K M0 none M9) 0 [(0, .ref v0), (1, .int v1)] [] M := by
  have hC := hE.1
  have hnm := hE.2.2.2.2.2.2.2.1
  unfold fX4_startAfresh at h
  refine go_iconst hC dX4_startAfresh_0 (v := (0 : Int32)) (by decide +kernel) ?_
  refine go_istore_n (lv' := [(2, .int (0 : Int32)), (0, .ref v0), (1, .int v1)]) hC dX4_startAfresh_1 rfl (by decide) rfl ?_
  refine go_sub (lv' := [(0, .ref v0), (1, .int v1), (2, .int (0 : Int32))]) [1, 2, 0] rfl ?_
  exact tX4_startAfresh_2 hE k9 _ _ _ _ h
theorem c_X4_startAfresh (l : Launch) {x9 : Cx} {k9 : Nat} {M M9 : Mm} {r9 : Unit} {v0 : Nat} {v1 : Int32} (h : fX4_startAfresh x9 k9 v0 v1 M = some (r9, M9)) : Fn l x9 yX4_startAfresh cX4_startAfresh 3 none 1 23 [.ref v0, .int v1] M none M9 :=
  Fn.of (by decide +kernel) (Nat.le_of_ble_eq_true rfl) rfl (fun K _ hE => tX4_startAfresh_0 hE _ _ _ h)
/-! X4_init -/
def fX4_init_14 (x9 : Cx) (k9 : Nat) : Nat → Nat → Int32 → Mm → Option (Unit × Mm)
  | 0, _, _, _ => none
  | n9 + 1, v0, v1, M => if (5 : Int32) ≤ v1 then if mX M + 1 ≤ xC x9 ∧ mS M + 3 ≤ xL x9 then ob2 (fJx4a65c_init_da8c8 x9 k9 (mX M) (nO M 7 0 3)) (fun r3 M4 => if mK M4 v0 = 5 then if mX (sP M4 v0 1 (some (mX M))) + 1 ≤ xC x9 ∧ mS (sP M4 v0 1 (some (mX M))) + 3 ≤ xL x9 then ob2 (fJx4a65c_init_da8c8 x9 k9 (mX (sP M4 v0 1 (some (mX M)))) (nO (sP M4 v0 1 (some (mX M))) 7 0 3)) (fun r9 M10 => if mK M10 v0 = 5 then if mX (sP M10 v0 2 (some (mX (sP M4 v0 1 (some (mX M)))))) + 1 ≤ xC x9 ∧ mS (sP M10 v0 2 (some (mX (sP M4 v0 1 (some (mX M)))))) + 4 ≤ xL x9 then ob2 (fX0_init x9 k9 (mX (sP M10 v0 2 (some (mX (sP M4 v0 1 (some (mX M))))))) (nO (sP M10 v0 2 (some (mX (sP M4 v0 1 (some (mX M)))))) 1 0 4)) (fun r15 M16 => if mK M16 v0 = 5 then lt1 (sP M16 v0 3 (some (mX (sP M10 v0 2 (some (mX (sP M4 v0 1 (some (mX M))))))))) (fun M20 => if mK M20 v0 = 5 then ob2 (fX4_startAfresh x9 k9 v0 (2 : Int32) M20) (fun r22 M23 => some ((), M23)) else none) else none) else none else none) else none else none) else none else if mK M v0 = 5 then ob1 (mP M v0 0) (fun b27 => if mX M + 1 ≤ xC x9 ∧ mS M + 5 ≤ xL x9 then ob2 (fX2_init x9 k9 (mX M) (nO M 3 0 5)) (fun r30 M31 => if mK M31 b27 = 10 ∧ mK M31 (mX M) = 3 ∧ ¬ (v1 < 0 ∨ mN M31 b27 ≤ (v1).toNatClampNeg) then fX4_init_14 x9 k9 n9 v0 (v1 + 1) (sP M31 b27 (v1).toNatClampNeg (some (mX M))) else none) else none) else none
set_option maxRecDepth 100000 in
set_option maxHeartbeats 4000000 in
theorem tX4_init_14 {x9 : Cx} {K : Ct} {k9 : Nat} {M0 M9 : Mm} {r9 : Unit} (hE : Ce x9 K RX4 cX4_init 2 none 4 80 "<init>" M0) : ∀ (n9 : Nat) (v0 : Nat) (v1 : Int32) (M : Mm), fX4_init_14 x9 k9 n9 v0 v1 M = some (r9, M9) → Go x9 K 2 (Qf x9 K M0 none M9) 14 [(0, .ref v0), (1, .int v1)] [] M := by
  have hC := hE.1
  have hnm := hE.2.2.2.2.2.2.2.1
  intro n9
  induction n9 with
  | zero => intro _ _ _ h; cases h
  | succ n9 ih =>
    intro v0 v1 M h
    rw [fX4_init_14] at h
    refine go_iload_n hC dX4_init_14 rfl 1 rfl ?_
    refine go_iconst hC dX4_init_15 (v := (5 : Int32)) (by decide +kernel) ?_
    refine go_icmp_ge (t := 38) hC dX4_init_16 (by decide) (fun c1 => ?_) (fun c1 => ?_)
    · have h := os_t h c1
      refine go_aload_n hC dX4_init_38 rfl 0 rfl ?_
      obtain ⟨h2, h⟩ := os_1 h
      refine go_new (κ := 7) (C := RJx4a65c) (T := TJx4a65c) (N := 3) hE rfl rfl inlJx4a65c tyJx4a65c tyJx4a65c_ok m_17 m_18 m_19 df_7 h2.1 h2.2 dX4_init_39 ?_
      refine go_dup hC dX4_init_42 rfl ?_
      obtain ⟨r3, M4, h5, h⟩ := os_c h
      refine go_callI (bytes := cJx4a65c_init_da8c8) (maxL := 1) (n := 0) (As := []) (st := [.ref (mX M), .ref v0]) hE (c_Jx4a65c_init_da8c8 K.2.1 h5) (by unfold okY; decide +kernel) rfl (b := (mX M)) m_35 m_33 m_34 rfl m_19 rfl (by simp [Value.category]) (by decide) (by decide) dX4_init_43 ?_
      refine go_eq (pc' := 46) (st' := [.ref (mX M), .ref v0]) (M' := M4) (lv' := [(0, .ref v0), (1, .int v1)]) ?_ rfl rfl rfl rfl
      obtain ⟨h7, h⟩ := os_1 h
      refine go_putR 1 hC h7 rfl rfl (C := RX4) (T := TX4) (N := 7) rfl inlX4 tyX4 tyX4_ok nmX4 (by decide) m_20 (Or.inl rfl) (Or.inr ⟨rfl, rfl, hnm⟩) (tyX4_ok 1 (by decide)) rfl rfl dX4_init_46 ?_
      refine go_aload_n hC dX4_init_49 rfl 0 rfl ?_
      obtain ⟨h8, h⟩ := os_1 h
      refine go_new (κ := 7) (C := RJx4a65c) (T := TJx4a65c) (N := 3) hE rfl rfl inlJx4a65c tyJx4a65c tyJx4a65c_ok m_17 m_18 m_19 df_7 h8.1 h8.2 dX4_init_50 ?_
      refine go_dup hC dX4_init_53 rfl ?_
      obtain ⟨r9, M10, h11, h⟩ := os_c h
      refine go_callI (bytes := cJx4a65c_init_da8c8) (maxL := 1) (n := 0) (As := []) (st := [.ref (mX (sP M4 v0 1 (some (mX M)))), .ref v0]) hE (c_Jx4a65c_init_da8c8 K.2.1 h11) (by unfold okY; decide +kernel) rfl (b := (mX (sP M4 v0 1 (some (mX M))))) m_35 m_33 m_34 rfl m_19 rfl (by simp [Value.category]) (by decide) (by decide) dX4_init_54 ?_
      refine go_eq (pc' := 57) (st' := [.ref (mX (sP M4 v0 1 (some (mX M)))), .ref v0]) (M' := M10) (lv' := [(0, .ref v0), (1, .int v1)]) ?_ rfl rfl rfl rfl
      obtain ⟨h13, h⟩ := os_1 h
      refine go_putR 2 hC h13 rfl rfl (C := RX4) (T := TX4) (N := 7) rfl inlX4 tyX4 tyX4_ok nmX4 (by decide) m_21 (Or.inl rfl) (Or.inr ⟨rfl, rfl, hnm⟩) (tyX4_ok 2 (by decide)) rfl rfl dX4_init_57 ?_
      refine go_aload_n hC dX4_init_60 rfl 0 rfl ?_
      obtain ⟨h14, h⟩ := os_1 h
      refine go_new (κ := 1) (C := RX0) (T := TX0) (N := 4) hE rfl rfl inlX0 tyX0 tyX0_ok m_22 m_23 m_24 df_1 h14.1 h14.2 dX4_init_61 ?_
      refine go_dup hC dX4_init_64 rfl ?_
      obtain ⟨r15, M16, h17, h⟩ := os_c h
      refine go_callIN (bytes := cX0_init) (maxL := 1) (n := 0) (As := []) (st := [.ref (mX (sP M10 v0 2 (some (mX (sP M4 v0 1 (some (mX M))))))), .ref v0]) hE (c_X0_init K.2.1 h17) (by unfold okY; decide +kernel) rfl (b := (mX (sP M10 v0 2 (some (mX (sP M4 v0 1 (some (mX M)))))))) m_49 (i := 1) rfl m_48 rfl m_24 rfl (by simp [Value.category]) (by decide) (by decide) dX4_init_65 ?_
      refine go_eq (pc' := 68) (st' := [.ref (mX (sP M10 v0 2 (some (mX (sP M4 v0 1 (some (mX M))))))), .ref v0]) (M' := M16) (lv' := [(0, .ref v0), (1, .int v1)]) ?_ rfl rfl rfl rfl
      obtain ⟨h19, h⟩ := os_1 h
      refine go_putR 3 hC h19 rfl rfl (C := RX4) (T := TX4) (N := 7) rfl inlX4 tyX4 tyX4_ok nmX4 (by decide) m_25 (Or.inl rfl) (Or.inr ⟨rfl, rfl, hnm⟩) (tyX4_ok 3 (by decide)) rfl rfl dX4_init_68 ?_
      obtain ⟨M20, e21, h⟩ := os_l h
      refine go_eq (pc' := 71) (st' := []) (M' := M20) (lv' := [(0, .ref v0), (1, .int v1)]) ?_ rfl rfl rfl e21
      refine go_aload_n hC dX4_init_71 rfl 0 rfl ?_
      refine go_iconst hC dX4_init_72 (v := (2 : Int32)) (by decide +kernel) ?_
      obtain ⟨h25, h⟩ := os_1 h
      obtain ⟨r22, M23, h24, h⟩ := os_c h
      refine go_callV (bytes := cX4_startAfresh) (maxL := 3) (ret := none) (n := 1) (As := [.int (2 : Int32)]) (st := []) hE (c_X4_startAfresh K.2.1 h24) (by unfold okY; decide +kernel) rfl h25 rfl (C := RX4) (T := TX4) (N := 7) rfl m_54 m_51 m_52 m_53 m_2 rfl (by simp [Value.category]) (by decide) (by decide) dX4_init_73 ?_
      refine go_eq (pc' := 76) (st' := []) (M' := M23) (lv' := [(0, .ref v0), (1, .int v1)]) ?_ rfl rfl rfl rfl
      cases h
      exact go_vret hE dX4_init_76
    · have h := os_f h c1
      refine go_aload_n hC dX4_init_19 rfl 0 rfl ?_
      obtain ⟨h26, h⟩ := os_1 h
      obtain ⟨b27, h28, h⟩ := os_b h
      refine go_getR 0 hC h26 rfl rfl h28 (C := RX4) (T := TX4) (N := 7) rfl inlX4 (by decide) m_14 (Or.inl rfl) dX4_init_20 ?_
      refine go_iload_n hC dX4_init_23 rfl 1 rfl ?_
      obtain ⟨h29, h⟩ := os_1 h
      refine go_new (κ := 3) (C := RX2) (T := TX2) (N := 5) hE rfl rfl inlX2 tyX2 tyX2_ok m_13 m_15 m_16 df_3 h29.1 h29.2 dX4_init_24 ?_
      refine go_dup hC dX4_init_27 rfl ?_
      obtain ⟨r30, M31, h32, h⟩ := os_c h
      refine go_callIN (bytes := cX2_init) (maxL := 1) (n := 0) (As := []) (st := [.ref (mX M), .int v1, .ref b27]) hE (c_X2_init K.2.1 h32) (by unfold okY; decide +kernel) rfl (b := (mX M)) m_27 (i := 0) rfl m_26 rfl m_16 rfl (by simp [Value.category]) (by decide) (by decide) dX4_init_28 ?_
      refine go_eq (pc' := 31) (st' := [.ref (mX M), .int v1, .ref b27]) (M' := M31) (lv' := [(0, .ref v0), (1, .int v1)]) ?_ rfl rfl rfl rfl
      obtain ⟨h34, h⟩ := os_1 h
      refine go_aastT hC h34.1 h34.2.1 h34.2.2 dX4_init_31 ?_
      refine go_iinc (q := 1) (v := (v1 + 1)) (lv' := [(1, .int (v1 + 1)), (0, .ref v0)]) hC dX4_init_32 rfl rfl (by decide) rfl ?_
      refine go_goto (t := 14) hC dX4_init_35 (by decide) ?_
      refine go_sub (lv' := [(0, .ref v0), (1, .int (v1 + 1))]) [1, 0] rfl ?_
      exact ih _ _ _ h
def fX4_init (x9 : Cx) (k9 : Nat) (v0 : Nat) (M : Mm) : Option (Unit × Mm) :=
  if ¬ (5 : Int32) < 0 ∧ ((5 : Int32)).toNatClampNeg * 4 ≤ 536870912 ∧ mX M + 1 ≤ xC x9 ∧ mS M + ((5 : Int32)).toNatClampNeg ≤ xL x9 then if mK (nO M 10 ((5 : Int32)).toNatClampNeg ((5 : Int32)).toNatClampNeg) v0 = 5 then lt1 (sP (nO M 10 ((5 : Int32)).toNatClampNeg ((5 : Int32)).toNatClampNeg) v0 0 (some (mX M))) (fun M3 => fX4_init_14 x9 k9 k9 v0 (0 : Int32) M3) else none else none
set_option maxRecDepth 100000 in
set_option maxHeartbeats 4000000 in
theorem tX4_init_0 {x9 : Cx} {K : Ct} {k9 : Nat} {M0 M9 : Mm} {r9 : Unit} (hE : Ce x9 K RX4 cX4_init 2 none 4 80 "<init>" M0) (v0 : Nat) (M : Mm) (h : fX4_init x9 k9 v0 M = some (r9, M9)) : Go x9 K 2 (Qf x9 K M0 none M9) 0 [(0, .ref v0)] [] M := by
  have hC := hE.1
  have hnm := hE.2.2.2.2.2.2.2.1
  unfold fX4_init at h
  refine go_aload_n hC dX4_init_0 rfl 0 rfl ?_
  refine go_objInit hE m_10 m_11 m_12 dX4_init_1 (by decide) (by decide) (by simp [Value.category]) ?_
  refine go_aload_n hC dX4_init_4 rfl 0 rfl ?_
  refine go_iconst hC dX4_init_5 (v := (5 : Int32)) (by decide +kernel) ?_
  obtain ⟨h1, h⟩ := os_1 h
  refine go_anewT hE m_13 h1.1 h1.2.1 h1.2.2.1 h1.2.2.2 dX4_init_6 ?_
  obtain ⟨h2, h⟩ := os_1 h
  refine go_putR 0 hC h2 rfl rfl (C := RX4) (T := TX4) (N := 7) rfl inlX4 tyX4 tyX4_ok nmX4 (by decide) m_14 (Or.inl rfl) (Or.inr ⟨rfl, rfl, hnm⟩) (tyX4_ok 0 (by decide)) rfl rfl dX4_init_9 ?_
  obtain ⟨M3, e4, h⟩ := os_l h
  refine go_eq (pc' := 12) (st' := []) (M' := M3) (lv' := [(0, .ref v0)]) ?_ rfl rfl rfl e4
  refine go_iconst hC dX4_init_12 (v := (0 : Int32)) (by decide +kernel) ?_
  refine go_istore_n (lv' := [(1, .int (0 : Int32)), (0, .ref v0)]) hC dX4_init_13 rfl (by decide) rfl ?_
  refine go_sub (lv' := [(0, .ref v0), (1, .int (0 : Int32))]) [1, 0] rfl ?_
  exact tX4_init_14 hE k9 _ _ _ h
theorem c_X4_init (l : Launch) {x9 : Cx} {k9 : Nat} {M M9 : Mm} {r9 : Unit} {v0 : Nat} (h : fX4_init x9 k9 v0 M = some (r9, M9)) : Fn l x9 yX4_init cX4_init 2 none 4 80 [.ref v0] M none M9 :=
  Fn.of (by decide +kernel) (Nat.le_of_ble_eq_true rfl) rfl (fun K _ hE => tX4_init_0 hE _ _ h)
