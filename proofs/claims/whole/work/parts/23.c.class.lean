/-! X4_open -/
def fX4_open_15 (x9 : Cx) (k9 : Nat) (v0 : Nat) (v1 : Int32) (s0 : Int32) (M : Mm) : Option ((Nat ⊕ Unit) × Mm) :=
  obT (fX4_needArgument x9 k9 s0 M) (fun r1 M2 => if mK M2 v0 = 5 then ob2 (fX4_startAfresh x9 k9 v0 v1 M2) (fun r5 M6 => some (.inr (), M6)) else none)
set_option maxRecDepth 100000 in
set_option maxHeartbeats 4000000 in
theorem tX4_open_15 {x9 : Cx} {K : Ct} {k9 : Nat} {M0 M9 : Mm} {r9 : Unit} (hE : Ce x9 K RX4 cX4_open 2 none 7 110 "open" M0) (v0 : Nat) (v1 : Int32) (s0 : Int32) (M : Mm) (h : fX4_open_15 x9 k9 v0 v1 s0 M = some (.inr r9, M9)) : Go x9 K 2 (Qf x9 K M0 none M9) 15 [(0, .ref v0), (1, .int v1)] [.int s0] M := by
  have hC := hE.1
  have hnm := hE.2.2.2.2.2.2.2.1
  unfold fX4_open_15 at h
  obtain ⟨r1, M2, h3, h⟩ := os_TR h
  refine go_callS (bytes := cX4_needArgument) (maxL := 1) (ret := none) (n := 1) (As := [.int s0]) (st := []) hE (c_X4_needArgument K.2.1 h3) (by unfold okY; decide +kernel) rfl m_117 m_115 m_116 m_2 rfl (by simp [Value.category]) (by decide) (by decide) dX4_open_15 ?_
  refine go_eq (pc' := 18) (st' := []) (M' := M2) (lv' := [(0, .ref v0), (1, .int v1)]) ?_ rfl rfl rfl rfl
  refine go_aload_n hC dX4_open_18 rfl 0 rfl ?_
  refine go_iload_n hC dX4_open_19 rfl 1 rfl ?_
  obtain ⟨h8, h⟩ := os_1 h
  obtain ⟨r5, M6, h7, h⟩ := os_c h
  refine go_callV (bytes := cX4_startAfresh) (maxL := 3) (ret := none) (n := 1) (As := [.int v1]) (st := []) hE (c_X4_startAfresh K.2.1 h7) (by unfold okY; decide +kernel) rfl h8 rfl (C := RX4) (T := TX4) (N := 7) rfl m_54 m_51 m_52 m_53 m_2 rfl (by simp [Value.category]) (by decide) (by decide) dX4_open_20 ?_
  refine go_eq (pc' := 23) (st' := []) (M' := M6) (lv' := [(0, .ref v0), (1, .int v1)]) ?_ rfl rfl rfl rfl
  cases h
  exact go_vret hE dX4_open_23
def fX4_open_14 (x9 : Cx) (k9 : Nat) (v0 : Nat) (v1 : Int32) (M : Mm) : Option ((Nat ⊕ Unit) × Mm) :=
  fX4_open_15 x9 k9 v0 v1 (0 : Int32) M
set_option maxRecDepth 100000 in
set_option maxHeartbeats 4000000 in
theorem tX4_open_14 {x9 : Cx} {K : Ct} {k9 : Nat} {M0 M9 : Mm} {r9 : Unit} (hE : Ce x9 K RX4 cX4_open 2 none 7 110 "open" M0) (v0 : Nat) (v1 : Int32) (M : Mm) (h : fX4_open_14 x9 k9 v0 v1 M = some (.inr r9, M9)) : Go x9 K 2 (Qf x9 K M0 none M9) 14 [(0, .ref v0), (1, .int v1)] [] M := by
  have hC := hE.1
  have hnm := hE.2.2.2.2.2.2.2.1
  unfold fX4_open_14 at h
  refine go_iconst hC dX4_open_14 (v := (0 : Int32)) (by decide +kernel) ?_
  exact tX4_open_15 hE _ _ _ _ h
def fX4_open (x9 : Cx) (k9 : Nat) (v0 : Nat) (v1 : Int32) (M : Mm) : Option ((Nat ⊕ Unit) × Mm) :=
  if v1 < (2 : Int32) then fX4_open_14 x9 k9 v0 v1 M else if (5 : Int32) < v1 then fX4_open_14 x9 k9 v0 v1 M else fX4_open_15 x9 k9 v0 v1 (1 : Int32) M
set_option maxRecDepth 100000 in
set_option maxHeartbeats 4000000 in
theorem tX4_open_0 {x9 : Cx} {K : Ct} {k9 : Nat} {M0 M9 : Mm} {r9 : Unit} (hE : Ce x9 K RX4 cX4_open 2 none 7 110 "open" M0) (v0 : Nat) (v1 : Int32) (M : Mm) (h : fX4_open x9 k9 v0 v1 M = some (.inr r9, M9)) : Go x9 K 2 (Qf x9 K M0 none M9) 0 [(0, .ref v0), (1, .int v1)] [] M := by
  have hC := hE.1
  have hnm := hE.2.2.2.2.2.2.2.1
  unfold fX4_open at h
  refine go_iload_n hC dX4_open_0 rfl 1 rfl ?_
  refine go_iconst hC dX4_open_1 (v := (2 : Int32)) (by decide +kernel) ?_
  refine go_icmp_lt (t := 14) hC dX4_open_2 (by decide) (fun c1 => ?_) (fun c1 => ?_)
  · have h := os_t h c1
    exact tX4_open_14 hE _ _ _ h
  · have h := os_f h c1
    refine go_iload_n hC dX4_open_5 rfl 1 rfl ?_
    refine go_iconst hC dX4_open_6 (v := (5 : Int32)) (by decide +kernel) ?_
    refine go_icmp_gt (t := 14) hC dX4_open_7 (by decide) (fun c2 => ?_) (fun c2 => ?_)
    · have h := os_t h c2
      exact tX4_open_14 hE _ _ _ h
    · have h := os_f h c2
      refine go_iconst hC dX4_open_10 (v := (1 : Int32)) (by decide +kernel) ?_
      refine go_goto (t := 15) hC dX4_open_11 (by decide) ?_
      exact tX4_open_15 hE _ _ _ _ h
theorem c_X4_open (l : Launch) {x9 : Cx} {k9 : Nat} {M M9 : Mm} {r9 : Unit} {v0 : Nat} {v1 : Int32} (h : fX4_open x9 k9 v0 v1 M = some (.inr r9, M9)) : Fn l x9 yX4_open cX4_open 2 none 7 110 [.ref v0, .int v1] M none M9 :=
  Fn.of (by decide +kernel) (Nat.le_of_ble_eq_true rfl) rfl (fun K _ hE => tX4_open_0 hE _ _ _ h)
set_option maxRecDepth 100000 in
set_option maxHeartbeats 4000000 in
theorem uX4_open_15 {x9 : Cx} {K : Ct} {k9 : Nat} {M0 M9 : Mm} {c9 : Nat} (hX : CeX x9 K RX4 cX4_open 2 none 7 110 "open" M0) (v0 : Nat) (v1 : Int32) (s0 : Int32) (M : Mm) (h : fX4_open_15 x9 k9 v0 v1 s0 M = some (.inl c9, M9)) : Go x9 K 2 (QX x9 K M0 c9 M9) 15 [(0, .ref v0), (1, .int v1)] [.int s0] M := by
  have hE := hX.1
  have hC := hE.1
  unfold fX4_open_15 at h
  rcases os_TX h with h3 | ⟨r1, M2, h3, h⟩
  · exact go_callSX (bytes := cX4_needArgument) (maxL := 1) (ret := none) (n := 1) (As := [.int s0]) (st := []) hX (cX_X4_needArgument K.2.1 hX.2.2 h3) (by unfold okY; decide +kernel) rfl m_117 m_115 m_116 m_2 rfl (by simp [Value.category]) (by decide) (by decide) dX4_open_15
  refine go_callS (bytes := cX4_needArgument) (maxL := 1) (ret := none) (n := 1) (As := [.int s0]) (st := []) hE (c_X4_needArgument K.2.1 h3) (by unfold okY; decide +kernel) rfl m_117 m_115 m_116 m_2 rfl (by simp [Value.category]) (by decide) (by decide) dX4_open_15 ?_
  refine go_eq (pc' := 18) (st' := []) (M' := M2) (lv' := [(0, .ref v0), (1, .int v1)]) ?_ rfl rfl rfl rfl
  refine go_aload_n hC dX4_open_18 rfl 0 rfl ?_
  refine go_iload_n hC dX4_open_19 rfl 1 rfl ?_
  obtain ⟨h8, h⟩ := os_1 h
  obtain ⟨r5, M6, h7, h⟩ := os_c h
  refine go_callV (bytes := cX4_startAfresh) (maxL := 3) (ret := none) (n := 1) (As := [.int v1]) (st := []) hE (c_X4_startAfresh K.2.1 h7) (by unfold okY; decide +kernel) rfl h8 rfl (C := RX4) (T := TX4) (N := 7) rfl m_54 m_51 m_52 m_53 m_2 rfl (by simp [Value.category]) (by decide) (by decide) dX4_open_20 ?_
  refine go_eq (pc' := 23) (st' := []) (M' := M6) (lv' := [(0, .ref v0), (1, .int v1)]) ?_ rfl rfl rfl rfl
  cases h
set_option maxRecDepth 100000 in
set_option maxHeartbeats 4000000 in
theorem uX4_open_14 {x9 : Cx} {K : Ct} {k9 : Nat} {M0 M9 : Mm} {c9 : Nat} (hX : CeX x9 K RX4 cX4_open 2 none 7 110 "open" M0) (v0 : Nat) (v1 : Int32) (M : Mm) (h : fX4_open_14 x9 k9 v0 v1 M = some (.inl c9, M9)) : Go x9 K 2 (QX x9 K M0 c9 M9) 14 [(0, .ref v0), (1, .int v1)] [] M := by
  have hE := hX.1
  have hC := hE.1
  unfold fX4_open_14 at h
  refine go_iconst hC dX4_open_14 (v := (0 : Int32)) (by decide +kernel) ?_
  exact uX4_open_15 hX _ _ _ _ h
set_option maxRecDepth 100000 in
set_option maxHeartbeats 4000000 in
theorem uX4_open_0 {x9 : Cx} {K : Ct} {k9 : Nat} {M0 M9 : Mm} {c9 : Nat} (hX : CeX x9 K RX4 cX4_open 2 none 7 110 "open" M0) (v0 : Nat) (v1 : Int32) (M : Mm) (h : fX4_open x9 k9 v0 v1 M = some (.inl c9, M9)) : Go x9 K 2 (QX x9 K M0 c9 M9) 0 [(0, .ref v0), (1, .int v1)] [] M := by
  have hE := hX.1
  have hC := hE.1
  unfold fX4_open at h
  refine go_iload_n hC dX4_open_0 rfl 1 rfl ?_
  refine go_iconst hC dX4_open_1 (v := (2 : Int32)) (by decide +kernel) ?_
  refine go_icmp_lt (t := 14) hC dX4_open_2 (by decide) (fun c1 => ?_) (fun c1 => ?_)
  · have h := os_t h c1
    exact uX4_open_14 hX _ _ _ h
  · have h := os_f h c1
    refine go_iload_n hC dX4_open_5 rfl 1 rfl ?_
    refine go_iconst hC dX4_open_6 (v := (5 : Int32)) (by decide +kernel) ?_
    refine go_icmp_gt (t := 14) hC dX4_open_7 (by decide) (fun c2 => ?_) (fun c2 => ?_)
    · have h := os_t h c2
      exact uX4_open_14 hX _ _ _ h
    · have h := os_f h c2
      refine go_iconst hC dX4_open_10 (v := (1 : Int32)) (by decide +kernel) ?_
      refine go_goto (t := 15) hC dX4_open_11 (by decide) ?_
      exact uX4_open_15 hX _ _ _ _ h
theorem cX_X4_open (l : Launch) (hl : l.stackTraces = false) {x9 : Cx} {k9 : Nat} {M M9 : Mm} {c9 : Nat} {v0 : Nat} {v1 : Int32} (h : fX4_open x9 k9 v0 v1 M = some (.inl c9, M9)) : FnX l x9 yX4_open cX4_open 2 none 7 110 [.ref v0, .int v1] M c9 M9 :=
  FnX.of hl (by decide +kernel) (Nat.le_of_ble_eq_true rfl) rfl (fun K _ hX => uX4_open_0 hX _ _ _ h)
/-! X4_begin -/
def fX4_begin_64 (x9 : Cx) (k9 : Nat) (v0 : Nat) (v1 : Int32) (M : Mm) : Option ((Nat ⊕ Int32) × Mm) :=
  if mK M v0 = 5 then ob1 (mP M v0 1) (fun b2 => if mK M v0 = 5 then if mK M b2 = 7 then ob2 (fJx4a65c_get_915e3 x9 k9 b2 (mV M v0 5) M) (fun r5 M6 => if mK M6 r5 = 4 then if mK M6 v0 = 5 then if mK M6 v0 = 5 then ob1 (mP M6 v0 0) (fun b12 => if (mK M6 b12 = 10 ∨ mK M6 b12 = 11) ∧ ¬ (v1 < 0 ∨ mN M6 b12 ≤ (v1).toNatClampNeg) then ob1 (mP M6 b12 (v1).toNatClampNeg) (fun b16 => if mK M6 b16 = 3 then ob1 (mP M6 b16 1) (fun b18 => if mK M6 r5 = 4 then ob2 (fX3_startAt x9 k9 r5 (mV M6 v0 5) v1 b18 M6) (fun r20 M21 => if mK M21 v0 = 5 then if mK M21 v0 = 5 then if mK (sV M21 v0 5 ((mV M21 v0 5) + (1 : Int32))) v0 = 5 then some (.inr ((mV (sV M21 v0 5 ((mV M21 v0 5) + (1 : Int32))) v0 5) - (1 : Int32)), (sV M21 v0 5 ((mV M21 v0 5) + (1 : Int32)))) else none else none else none) else none) else none) else none) else none else none else none) else none else none) else none
set_option maxRecDepth 100000 in
set_option maxHeartbeats 4000000 in
theorem tX4_begin_64 {x9 : Cx} {K : Ct} {k9 : Nat} {M0 M9 : Mm} {r9 : Int32} (hE : Ce x9 K RX4 cX4_begin 2 (some .int) 8 171 "begin" M0) (v0 : Nat) (v1 : Int32) (M : Mm) (h : fX4_begin_64 x9 k9 v0 v1 M = some (.inr r9, M9)) : Go x9 K 2 (Qf x9 K M0 (some (.int r9)) M9) 64 [(0, .ref v0), (1, .int v1)] [] M := by
  have hC := hE.1
  have hnm := hE.2.2.2.2.2.2.2.1
  unfold fX4_begin_64 at h
  refine go_aload_n hC dX4_begin_64 rfl 0 rfl ?_
  obtain ⟨h1, h⟩ := os_1 h
  obtain ⟨b2, h3, h⟩ := os_b h
  refine go_getR 1 hC h1 rfl rfl h3 (C := RX4) (T := TX4) (N := 7) rfl inlX4 (by decide) m_20 (Or.inl rfl) dX4_begin_65 ?_
  refine go_aload_n hC dX4_begin_68 rfl 0 rfl ?_
  obtain ⟨h4, h⟩ := os_1 h
  refine go_getV 5 hC h4 rfl rfl (C := RX4) (T := TX4) (N := 7) rfl inlX4 (by decide) m_56 (Or.inl rfl) dX4_begin_69 ?_
  obtain ⟨h8, h⟩ := os_1 h
  obtain ⟨r5, M6, h7, h⟩ := os_c h
  refine go_callV (bytes := cJx4a65c_get_915e3) (maxL := 2) (ret := (some (.object "java/lang/Object"))) (n := 1) (As := [.int (mV M v0 5)]) (st := []) hE (c_Jx4a65c_get_915e3 K.2.1 h7) (by unfold okY; decide +kernel) rfl h8 rfl (C := RJx4a65c) (T := TJx4a65c) (N := 3) rfl m_220 m_217 m_218 m_219 m_19 rfl (by simp [Value.category]) (by decide) (by decide) dX4_begin_72 ?_
  refine go_eq (pc' := 75) (st' := [.ref r5]) (M' := M6) (lv' := [(0, .ref v0), (1, .int v1)]) ?_ rfl rfl rfl rfl
  obtain ⟨h9, h⟩ := os_1 h
  refine go_cast hC h9 rfl (C := RX3) (T := TX3) (N := 16) rfl m_145 dX4_begin_75 ?_
  refine go_aload_n hC dX4_begin_78 rfl 0 rfl ?_
  obtain ⟨h10, h⟩ := os_1 h
  refine go_getV 5 hC h10 rfl rfl (C := RX4) (T := TX4) (N := 7) rfl inlX4 (by decide) m_56 (Or.inl rfl) dX4_begin_79 ?_
  refine go_iload_n hC dX4_begin_82 rfl 1 rfl ?_
  refine go_aload_n hC dX4_begin_83 rfl 0 rfl ?_
  obtain ⟨h11, h⟩ := os_1 h
  obtain ⟨b12, h13, h⟩ := os_b h
  refine go_getR 0 hC h11 rfl rfl h13 (C := RX4) (T := TX4) (N := 7) rfl inlX4 (by decide) m_14 (Or.inl rfl) dX4_begin_84 ?_
  refine go_iload_n hC dX4_begin_87 rfl 1 rfl ?_
  obtain ⟨h14, h⟩ := os_1 h
  obtain ⟨b16, h15, h⟩ := os_b h
  refine go_aald hC h14.1 h14.2 h15 dX4_begin_88 ?_
  obtain ⟨h17, h⟩ := os_1 h
  obtain ⟨b18, h19, h⟩ := os_b h
  refine go_getR 1 hC h17 rfl rfl h19 (C := RX2) (T := TX2) (N := 5) rfl inlX2 (by decide) m_146 (Or.inl rfl) dX4_begin_89 ?_
  obtain ⟨h23, h⟩ := os_1 h
  obtain ⟨r20, M21, h22, h⟩ := os_c h
  refine go_callV (bytes := cX3_startAt) (maxL := 5) (ret := none) (n := 3) (As := [.int (mV M6 v0 5), .int v1, .ref b18]) (st := []) hE (c_X3_startAt K.2.1 h22) (by unfold okY; decide +kernel) rfl h23 rfl (C := RX3) (T := TX3) (N := 16) rfl m_236 m_233 m_234 m_235 m_144 rfl (by simp [Value.category]) (by decide) (by decide) dX4_begin_92 ?_
  refine go_eq (pc' := 95) (st' := []) (M' := M21) (lv' := [(0, .ref v0), (1, .int v1)]) ?_ rfl rfl rfl rfl
  refine go_aload_n hC dX4_begin_95 rfl 0 rfl ?_
  refine go_dup hC dX4_begin_96 rfl ?_
  obtain ⟨h24, h⟩ := os_1 h
  refine go_getV 5 hC h24 rfl rfl (C := RX4) (T := TX4) (N := 7) rfl inlX4 (by decide) m_56 (Or.inl rfl) dX4_begin_97 ?_
  refine go_iconst hC dX4_begin_100 (v := (1 : Int32)) (by decide +kernel) ?_
  refine go_iadd hC dX4_begin_101 ?_
  obtain ⟨h25, h⟩ := os_1 h
  refine go_putV 5 hC h25 rfl rfl (C := RX4) (T := TX4) (N := 7) rfl inlX4 tyX4 tyX4_ok nmX4 (by decide) m_56 (Or.inl rfl) (Or.inl rfl) (tyX4_ok 5 (by decide)) rfl rfl dX4_begin_102 ?_
  refine go_aload_n hC dX4_begin_105 rfl 0 rfl ?_
  obtain ⟨h26, h⟩ := os_1 h
  refine go_getV 5 hC h26 rfl rfl (C := RX4) (T := TX4) (N := 7) rfl inlX4 (by decide) m_56 (Or.inl rfl) dX4_begin_106 ?_
  refine go_iconst hC dX4_begin_109 (v := (1 : Int32)) (by decide +kernel) ?_
  refine go_isub hC dX4_begin_110 ?_
  cases h
  exact go_iret hE dX4_begin_111
def fX4_begin_32 (x9 : Cx) (k9 : Nat) (v0 : Nat) (v1 : Int32) (s0 : Int32) (M : Mm) : Option ((Nat ⊕ Int32) × Mm) :=
  obT (fX4_needState x9 k9 s0 M) (fun r1 M2 => if mK M2 v0 = 5 then if mK M2 v0 = 5 then ob1 (mP M2 v0 1) (fun b7 => if mK M2 b7 = 7 then ob2 (fJx4a65c_size_8abf5 x9 k9 b7 M2) (fun r9 M10 => if (mV M2 v0 5) = r9 then if mK M10 v0 = 5 then ob1 (mP M10 v0 1) (fun b15 => if mX M10 + 1 ≤ xC x9 ∧ mS M10 + 16 ≤ xL x9 then ob2 (fX3_init x9 k9 (mX M10) (nO M10 4 0 16)) (fun r18 M19 => if mK M19 b15 = 7 then ob2 (fJx4a65c_add_9ea2d x9 k9 b15 (mX M10) M19) (fun r22 M23 => fX4_begin_64 x9 k9 v0 v1 M23) else none) else none) else none else fX4_begin_64 x9 k9 v0 v1 M10) else none) else none else none)
set_option maxRecDepth 100000 in
set_option maxHeartbeats 4000000 in
theorem tX4_begin_32 {x9 : Cx} {K : Ct} {k9 : Nat} {M0 M9 : Mm} {r9 : Int32} (hE : Ce x9 K RX4 cX4_begin 2 (some .int) 8 171 "begin" M0) (v0 : Nat) (v1 : Int32) (s0 : Int32) (M : Mm) (h : fX4_begin_32 x9 k9 v0 v1 s0 M = some (.inr r9, M9)) : Go x9 K 2 (Qf x9 K M0 (some (.int r9)) M9) 32 [(0, .ref v0), (1, .int v1)] [.int s0] M := by
  have hC := hE.1
  have hnm := hE.2.2.2.2.2.2.2.1
  unfold fX4_begin_32 at h
  obtain ⟨r1, M2, h3, h⟩ := os_TR h
  refine go_callS (bytes := cX4_needState) (maxL := 1) (ret := none) (n := 1) (As := [.int s0]) (st := []) hE (c_X4_needState K.2.1 h3) (by unfold okY; decide +kernel) rfl m_153 m_151 m_152 m_2 rfl (by simp [Value.category]) (by decide) (by decide) dX4_begin_32 ?_
  refine go_eq (pc' := 35) (st' := []) (M' := M2) (lv' := [(0, .ref v0), (1, .int v1)]) ?_ rfl rfl rfl rfl
  refine go_aload_n hC dX4_begin_35 rfl 0 rfl ?_
  obtain ⟨h5, h⟩ := os_1 h
  refine go_getV 5 hC h5 rfl rfl (C := RX4) (T := TX4) (N := 7) rfl inlX4 (by decide) m_56 (Or.inl rfl) dX4_begin_36 ?_
  refine go_aload_n hC dX4_begin_39 rfl 0 rfl ?_
  obtain ⟨h6, h⟩ := os_1 h
  obtain ⟨b7, h8, h⟩ := os_b h
  refine go_getR 1 hC h6 rfl rfl h8 (C := RX4) (T := TX4) (N := 7) rfl inlX4 (by decide) m_20 (Or.inl rfl) dX4_begin_40 ?_
  obtain ⟨h12, h⟩ := os_1 h
  obtain ⟨r9, M10, h11, h⟩ := os_c h
  refine go_callV (bytes := cJx4a65c_size_8abf5) (maxL := 1) (ret := (some .int)) (n := 0) (As := []) (st := [.int (mV M2 v0 5)]) hE (c_Jx4a65c_size_8abf5 K.2.1 h11) (by unfold okY; decide +kernel) rfl h12 rfl (C := RJx4a65c) (T := TJx4a65c) (N := 3) rfl m_159 m_156 m_157 m_158 m_19 rfl (by simp [Value.category]) (by decide) (by decide) dX4_begin_43 ?_
  refine go_eq (pc' := 46) (st' := [.int r9, .int (mV M2 v0 5)]) (M' := M10) (lv' := [(0, .ref v0), (1, .int v1)]) ?_ rfl rfl rfl rfl
  refine go_icmp_ne (t := 64) hC dX4_begin_46 (by decide) (fun c13 => ?_) (fun c13 => ?_)
  · have h := os_f h c13
    exact tX4_begin_64 hE _ _ _ h
  · have h := os_t h c13
    refine go_aload_n hC dX4_begin_49 rfl 0 rfl ?_
    obtain ⟨h14, h⟩ := os_1 h
    obtain ⟨b15, h16, h⟩ := os_b h
    refine go_getR 1 hC h14 rfl rfl h16 (C := RX4) (T := TX4) (N := 7) rfl inlX4 (by decide) m_20 (Or.inl rfl) dX4_begin_50 ?_
    obtain ⟨h17, h⟩ := os_1 h
    refine go_new (κ := 4) (C := RX3) (T := TX3) (N := 16) hE rfl rfl inlX3 tyX3 tyX3_ok m_145 m_143 m_144 df_4 h17.1 h17.2 dX4_begin_53 ?_
    refine go_dup hC dX4_begin_56 rfl ?_
    obtain ⟨r18, M19, h20, h⟩ := os_c h
    refine go_callIN (bytes := cX3_init) (maxL := 1) (n := 0) (As := []) (st := [.ref (mX M10), .ref b15]) hE (c_X3_init K.2.1 h20) (by unfold okY; decide +kernel) rfl (b := (mX M10)) m_161 (i := 2) rfl m_160 rfl m_144 rfl (by simp [Value.category]) (by decide) (by decide) dX4_begin_57 ?_
    refine go_eq (pc' := 60) (st' := [.ref (mX M10), .ref b15]) (M' := M19) (lv' := [(0, .ref v0), (1, .int v1)]) ?_ rfl rfl rfl rfl
    obtain ⟨h25, h⟩ := os_1 h
    obtain ⟨r22, M23, h24, h⟩ := os_c h
    refine go_callV (bytes := cJx4a65c_add_9ea2d) (maxL := 2) (ret := (some .boolean)) (n := 1) (As := [.ref (mX M10)]) (st := []) hE (c_Jx4a65c_add_9ea2d K.2.1 h24) (by unfold okY; decide +kernel) rfl h25 rfl (C := RJx4a65c) (T := TJx4a65c) (N := 3) rfl m_170 m_167 m_168 m_169 m_19 rfl (by simp [Value.category]) (by decide) (by decide) dX4_begin_60 ?_
    refine go_eq (pc' := 63) (st' := [.int r22]) (M' := M23) (lv' := [(0, .ref v0), (1, .int v1)]) ?_ rfl rfl rfl rfl
    refine go_pop hC dX4_begin_63 rfl ?_
    exact tX4_begin_64 hE _ _ _ h
def fX4_begin_31 (x9 : Cx) (k9 : Nat) (v0 : Nat) (v1 : Int32) (M : Mm) : Option ((Nat ⊕ Int32) × Mm) :=
  fX4_begin_32 x9 k9 v0 v1 (0 : Int32) M
set_option maxRecDepth 100000 in
set_option maxHeartbeats 4000000 in
theorem tX4_begin_31 {x9 : Cx} {K : Ct} {k9 : Nat} {M0 M9 : Mm} {r9 : Int32} (hE : Ce x9 K RX4 cX4_begin 2 (some .int) 8 171 "begin" M0) (v0 : Nat) (v1 : Int32) (M : Mm) (h : fX4_begin_31 x9 k9 v0 v1 M = some (.inr r9, M9)) : Go x9 K 2 (Qf x9 K M0 (some (.int r9)) M9) 31 [(0, .ref v0), (1, .int v1)] [] M := by
  have hC := hE.1
  have hnm := hE.2.2.2.2.2.2.2.1
  unfold fX4_begin_31 at h
  refine go_iconst hC dX4_begin_31 (v := (0 : Int32)) (by decide +kernel) ?_
  exact tX4_begin_32 hE _ _ _ _ h
def fX4_begin (x9 : Cx) (k9 : Nat) (v0 : Nat) (v1 : Int32) (M : Mm) : Option ((Nat ⊕ Int32) × Mm) :=
  if mK M v0 = 5 then obT (fX4_needSite x9 k9 v0 v1 M) (fun r1 M2 => if mK M2 v0 = 5 then ob1 (mP M2 v0 0) (fun b6 => if (mK M2 b6 = 10 ∨ mK M2 b6 = 11) ∧ ¬ (v1 < 0 ∨ mN M2 b6 ≤ (v1).toNatClampNeg) then ob1 (mP M2 b6 (v1).toNatClampNeg) (fun b10 => if mK M2 b10 = 3 then if (mV M2 b10 0) = 0 then fX4_begin_31 x9 k9 v0 v1 M2 else if mK M2 v0 = 5 then if (200 : Int32) ≤ (mV M2 v0 5) then fX4_begin_31 x9 k9 v0 v1 M2 else fX4_begin_32 x9 k9 v0 v1 (1 : Int32) M2 else none else none) else none) else none) else none
set_option maxRecDepth 100000 in
set_option maxHeartbeats 4000000 in
theorem tX4_begin_0 {x9 : Cx} {K : Ct} {k9 : Nat} {M0 M9 : Mm} {r9 : Int32} (hE : Ce x9 K RX4 cX4_begin 2 (some .int) 8 171 "begin" M0) (v0 : Nat) (v1 : Int32) (M : Mm) (h : fX4_begin x9 k9 v0 v1 M = some (.inr r9, M9)) : Go x9 K 2 (Qf x9 K M0 (some (.int r9)) M9) 0 [(0, .ref v0), (1, .int v1)] [] M := by
  have hC := hE.1
  have hnm := hE.2.2.2.2.2.2.2.1
  unfold fX4_begin at h
  refine go_aload_n hC dX4_begin_0 rfl 0 rfl ?_
  refine go_iload_n hC dX4_begin_1 rfl 1 rfl ?_
  obtain ⟨h4, h⟩ := os_1 h
  obtain ⟨r1, M2, h3, h⟩ := os_TR h
  refine go_callV (bytes := cX4_needSite) (maxL := 2) (ret := none) (n := 1) (As := [.int v1]) (st := []) hE (c_X4_needSite K.2.1 h3) (by unfold okY; decide +kernel) rfl h4 rfl (C := RX4) (T := TX4) (N := 7) rfl m_150 m_147 m_148 m_149 m_2 rfl (by simp [Value.category]) (by decide) (by decide) dX4_begin_2 ?_
  refine go_eq (pc' := 5) (st' := []) (M' := M2) (lv' := [(0, .ref v0), (1, .int v1)]) ?_ rfl rfl rfl rfl
  refine go_aload_n hC dX4_begin_5 rfl 0 rfl ?_
  obtain ⟨h5, h⟩ := os_1 h
  obtain ⟨b6, h7, h⟩ := os_b h
  refine go_getR 0 hC h5 rfl rfl h7 (C := RX4) (T := TX4) (N := 7) rfl inlX4 (by decide) m_14 (Or.inl rfl) dX4_begin_6 ?_
  refine go_iload_n hC dX4_begin_9 rfl 1 rfl ?_
  obtain ⟨h8, h⟩ := os_1 h
  obtain ⟨b10, h9, h⟩ := os_b h
  refine go_aald hC h8.1 h8.2 h9 dX4_begin_10 ?_
  obtain ⟨h11, h⟩ := os_1 h
  refine go_getV 0 hC h11 rfl rfl (C := RX2) (T := TX2) (N := 5) rfl inlX2 (by decide) m_141 (Or.inl rfl) dX4_begin_11 ?_
  refine go_if_eq (t := 31) hC dX4_begin_14 (by decide) (fun c12 => ?_) (fun c12 => ?_)
  · have h := os_t h c12
    exact tX4_begin_31 hE _ _ _ h
  · have h := os_f h c12
    refine go_aload_n hC dX4_begin_17 rfl 0 rfl ?_
    obtain ⟨h13, h⟩ := os_1 h
    refine go_getV 5 hC h13 rfl rfl (C := RX4) (T := TX4) (N := 7) rfl inlX4 (by decide) m_56 (Or.inl rfl) dX4_begin_18 ?_
    refine go_sipush hC dX4_begin_21 (v := (200 : Int32)) (by decide +kernel) ?_
    refine go_icmp_ge (t := 31) hC dX4_begin_24 (by decide) (fun c14 => ?_) (fun c14 => ?_)
    · have h := os_t h c14
      exact tX4_begin_31 hE _ _ _ h
    · have h := os_f h c14
      refine go_iconst hC dX4_begin_27 (v := (1 : Int32)) (by decide +kernel) ?_
      refine go_goto (t := 32) hC dX4_begin_28 (by decide) ?_
      exact tX4_begin_32 hE _ _ _ _ h
theorem c_X4_begin (l : Launch) {x9 : Cx} {k9 : Nat} {M M9 : Mm} {r9 : Int32} {v0 : Nat} {v1 : Int32} (h : fX4_begin x9 k9 v0 v1 M = some (.inr r9, M9)) : Fn l x9 yX4_begin cX4_begin 2 (some .int) 8 171 [.ref v0, .int v1] M (some (.int r9)) M9 :=
  Fn.of (by decide +kernel) (Nat.le_of_ble_eq_true rfl) rfl (fun K _ hE => tX4_begin_0 hE _ _ _ h)
set_option maxRecDepth 100000 in
set_option maxHeartbeats 4000000 in
theorem uX4_begin_64 {x9 : Cx} {K : Ct} {k9 : Nat} {M0 M9 : Mm} {c9 : Nat} (hX : CeX x9 K RX4 cX4_begin 2 (some .int) 8 171 "begin" M0) (v0 : Nat) (v1 : Int32) (M : Mm) (h : fX4_begin_64 x9 k9 v0 v1 M = some (.inl c9, M9)) : Go x9 K 2 (QX x9 K M0 c9 M9) 64 [(0, .ref v0), (1, .int v1)] [] M := by
  have hE := hX.1
  have hC := hE.1
  unfold fX4_begin_64 at h
  refine go_aload_n hC dX4_begin_64 rfl 0 rfl ?_
  obtain ⟨h1, h⟩ := os_1 h
  obtain ⟨b2, h3, h⟩ := os_b h
  refine go_getR 1 hC h1 rfl rfl h3 (C := RX4) (T := TX4) (N := 7) rfl inlX4 (by decide) m_20 (Or.inl rfl) dX4_begin_65 ?_
  refine go_aload_n hC dX4_begin_68 rfl 0 rfl ?_
  obtain ⟨h4, h⟩ := os_1 h
  refine go_getV 5 hC h4 rfl rfl (C := RX4) (T := TX4) (N := 7) rfl inlX4 (by decide) m_56 (Or.inl rfl) dX4_begin_69 ?_
  obtain ⟨h8, h⟩ := os_1 h
  obtain ⟨r5, M6, h7, h⟩ := os_c h
  refine go_callV (bytes := cJx4a65c_get_915e3) (maxL := 2) (ret := (some (.object "java/lang/Object"))) (n := 1) (As := [.int (mV M v0 5)]) (st := []) hE (c_Jx4a65c_get_915e3 K.2.1 h7) (by unfold okY; decide +kernel) rfl h8 rfl (C := RJx4a65c) (T := TJx4a65c) (N := 3) rfl m_220 m_217 m_218 m_219 m_19 rfl (by simp [Value.category]) (by decide) (by decide) dX4_begin_72 ?_
  refine go_eq (pc' := 75) (st' := [.ref r5]) (M' := M6) (lv' := [(0, .ref v0), (1, .int v1)]) ?_ rfl rfl rfl rfl
  obtain ⟨h9, h⟩ := os_1 h
  refine go_cast hC h9 rfl (C := RX3) (T := TX3) (N := 16) rfl m_145 dX4_begin_75 ?_
  refine go_aload_n hC dX4_begin_78 rfl 0 rfl ?_
  obtain ⟨h10, h⟩ := os_1 h
  refine go_getV 5 hC h10 rfl rfl (C := RX4) (T := TX4) (N := 7) rfl inlX4 (by decide) m_56 (Or.inl rfl) dX4_begin_79 ?_
  refine go_iload_n hC dX4_begin_82 rfl 1 rfl ?_
  refine go_aload_n hC dX4_begin_83 rfl 0 rfl ?_
  obtain ⟨h11, h⟩ := os_1 h
  obtain ⟨b12, h13, h⟩ := os_b h
  refine go_getR 0 hC h11 rfl rfl h13 (C := RX4) (T := TX4) (N := 7) rfl inlX4 (by decide) m_14 (Or.inl rfl) dX4_begin_84 ?_
  refine go_iload_n hC dX4_begin_87 rfl 1 rfl ?_
  obtain ⟨h14, h⟩ := os_1 h
  obtain ⟨b16, h15, h⟩ := os_b h
  refine go_aald hC h14.1 h14.2 h15 dX4_begin_88 ?_
  obtain ⟨h17, h⟩ := os_1 h
  obtain ⟨b18, h19, h⟩ := os_b h
  refine go_getR 1 hC h17 rfl rfl h19 (C := RX2) (T := TX2) (N := 5) rfl inlX2 (by decide) m_146 (Or.inl rfl) dX4_begin_89 ?_
  obtain ⟨h23, h⟩ := os_1 h
  obtain ⟨r20, M21, h22, h⟩ := os_c h
  refine go_callV (bytes := cX3_startAt) (maxL := 5) (ret := none) (n := 3) (As := [.int (mV M6 v0 5), .int v1, .ref b18]) (st := []) hE (c_X3_startAt K.2.1 h22) (by unfold okY; decide +kernel) rfl h23 rfl (C := RX3) (T := TX3) (N := 16) rfl m_236 m_233 m_234 m_235 m_144 rfl (by simp [Value.category]) (by decide) (by decide) dX4_begin_92 ?_
  refine go_eq (pc' := 95) (st' := []) (M' := M21) (lv' := [(0, .ref v0), (1, .int v1)]) ?_ rfl rfl rfl rfl
  refine go_aload_n hC dX4_begin_95 rfl 0 rfl ?_
  refine go_dup hC dX4_begin_96 rfl ?_
  obtain ⟨h24, h⟩ := os_1 h
  refine go_getV 5 hC h24 rfl rfl (C := RX4) (T := TX4) (N := 7) rfl inlX4 (by decide) m_56 (Or.inl rfl) dX4_begin_97 ?_
  refine go_iconst hC dX4_begin_100 (v := (1 : Int32)) (by decide +kernel) ?_
  refine go_iadd hC dX4_begin_101 ?_
  obtain ⟨h25, h⟩ := os_1 h
  refine go_putV 5 hC h25 rfl rfl (C := RX4) (T := TX4) (N := 7) rfl inlX4 tyX4 tyX4_ok nmX4 (by decide) m_56 (Or.inl rfl) (Or.inl rfl) (tyX4_ok 5 (by decide)) rfl rfl dX4_begin_102 ?_
  refine go_aload_n hC dX4_begin_105 rfl 0 rfl ?_
  obtain ⟨h26, h⟩ := os_1 h
  refine go_getV 5 hC h26 rfl rfl (C := RX4) (T := TX4) (N := 7) rfl inlX4 (by decide) m_56 (Or.inl rfl) dX4_begin_106 ?_
  refine go_iconst hC dX4_begin_109 (v := (1 : Int32)) (by decide +kernel) ?_
  refine go_isub hC dX4_begin_110 ?_
  cases h
set_option maxRecDepth 100000 in
set_option maxHeartbeats 4000000 in
theorem uX4_begin_32 {x9 : Cx} {K : Ct} {k9 : Nat} {M0 M9 : Mm} {c9 : Nat} (hX : CeX x9 K RX4 cX4_begin 2 (some .int) 8 171 "begin" M0) (v0 : Nat) (v1 : Int32) (s0 : Int32) (M : Mm) (h : fX4_begin_32 x9 k9 v0 v1 s0 M = some (.inl c9, M9)) : Go x9 K 2 (QX x9 K M0 c9 M9) 32 [(0, .ref v0), (1, .int v1)] [.int s0] M := by
  have hE := hX.1
  have hC := hE.1
  unfold fX4_begin_32 at h
  rcases os_TX h with h3 | ⟨r1, M2, h3, h⟩
  · exact go_callSX (bytes := cX4_needState) (maxL := 1) (ret := none) (n := 1) (As := [.int s0]) (st := []) hX (cX_X4_needState K.2.1 hX.2.2 h3) (by unfold okY; decide +kernel) rfl m_153 m_151 m_152 m_2 rfl (by simp [Value.category]) (by decide) (by decide) dX4_begin_32
  refine go_callS (bytes := cX4_needState) (maxL := 1) (ret := none) (n := 1) (As := [.int s0]) (st := []) hE (c_X4_needState K.2.1 h3) (by unfold okY; decide +kernel) rfl m_153 m_151 m_152 m_2 rfl (by simp [Value.category]) (by decide) (by decide) dX4_begin_32 ?_
  refine go_eq (pc' := 35) (st' := []) (M' := M2) (lv' := [(0, .ref v0), (1, .int v1)]) ?_ rfl rfl rfl rfl
  refine go_aload_n hC dX4_begin_35 rfl 0 rfl ?_
  obtain ⟨h5, h⟩ := os_1 h
  refine go_getV 5 hC h5 rfl rfl (C := RX4) (T := TX4) (N := 7) rfl inlX4 (by decide) m_56 (Or.inl rfl) dX4_begin_36 ?_
  refine go_aload_n hC dX4_begin_39 rfl 0 rfl ?_
  obtain ⟨h6, h⟩ := os_1 h
  obtain ⟨b7, h8, h⟩ := os_b h
  refine go_getR 1 hC h6 rfl rfl h8 (C := RX4) (T := TX4) (N := 7) rfl inlX4 (by decide) m_20 (Or.inl rfl) dX4_begin_40 ?_
  obtain ⟨h12, h⟩ := os_1 h
  obtain ⟨r9, M10, h11, h⟩ := os_c h
  refine go_callV (bytes := cJx4a65c_size_8abf5) (maxL := 1) (ret := (some .int)) (n := 0) (As := []) (st := [.int (mV M2 v0 5)]) hE (c_Jx4a65c_size_8abf5 K.2.1 h11) (by unfold okY; decide +kernel) rfl h12 rfl (C := RJx4a65c) (T := TJx4a65c) (N := 3) rfl m_159 m_156 m_157 m_158 m_19 rfl (by simp [Value.category]) (by decide) (by decide) dX4_begin_43 ?_
  refine go_eq (pc' := 46) (st' := [.int r9, .int (mV M2 v0 5)]) (M' := M10) (lv' := [(0, .ref v0), (1, .int v1)]) ?_ rfl rfl rfl rfl
  refine go_icmp_ne (t := 64) hC dX4_begin_46 (by decide) (fun c13 => ?_) (fun c13 => ?_)
  · have h := os_f h c13
    exact uX4_begin_64 hX _ _ _ h
  · have h := os_t h c13
    refine go_aload_n hC dX4_begin_49 rfl 0 rfl ?_
    obtain ⟨h14, h⟩ := os_1 h
    obtain ⟨b15, h16, h⟩ := os_b h
    refine go_getR 1 hC h14 rfl rfl h16 (C := RX4) (T := TX4) (N := 7) rfl inlX4 (by decide) m_20 (Or.inl rfl) dX4_begin_50 ?_
    obtain ⟨h17, h⟩ := os_1 h
    refine go_new (κ := 4) (C := RX3) (T := TX3) (N := 16) hE rfl rfl inlX3 tyX3 tyX3_ok m_145 m_143 m_144 df_4 h17.1 h17.2 dX4_begin_53 ?_
    refine go_dup hC dX4_begin_56 rfl ?_
    obtain ⟨r18, M19, h20, h⟩ := os_c h
    refine go_callIN (bytes := cX3_init) (maxL := 1) (n := 0) (As := []) (st := [.ref (mX M10), .ref b15]) hE (c_X3_init K.2.1 h20) (by unfold okY; decide +kernel) rfl (b := (mX M10)) m_161 (i := 2) rfl m_160 rfl m_144 rfl (by simp [Value.category]) (by decide) (by decide) dX4_begin_57 ?_
    refine go_eq (pc' := 60) (st' := [.ref (mX M10), .ref b15]) (M' := M19) (lv' := [(0, .ref v0), (1, .int v1)]) ?_ rfl rfl rfl rfl
    obtain ⟨h25, h⟩ := os_1 h
    obtain ⟨r22, M23, h24, h⟩ := os_c h
    refine go_callV (bytes := cJx4a65c_add_9ea2d) (maxL := 2) (ret := (some .boolean)) (n := 1) (As := [.ref (mX M10)]) (st := []) hE (c_Jx4a65c_add_9ea2d K.2.1 h24) (by unfold okY; decide +kernel) rfl h25 rfl (C := RJx4a65c) (T := TJx4a65c) (N := 3) rfl m_170 m_167 m_168 m_169 m_19 rfl (by simp [Value.category]) (by decide) (by decide) dX4_begin_60 ?_
    refine go_eq (pc' := 63) (st' := [.int r22]) (M' := M23) (lv' := [(0, .ref v0), (1, .int v1)]) ?_ rfl rfl rfl rfl
    refine go_pop hC dX4_begin_63 rfl ?_
    exact uX4_begin_64 hX _ _ _ h
set_option maxRecDepth 100000 in
set_option maxHeartbeats 4000000 in
theorem uX4_begin_31 {x9 : Cx} {K : Ct} {k9 : Nat} {M0 M9 : Mm} {c9 : Nat} (hX : CeX x9 K RX4 cX4_begin 2 (some .int) 8 171 "begin" M0) (v0 : Nat) (v1 : Int32) (M : Mm) (h : fX4_begin_31 x9 k9 v0 v1 M = some (.inl c9, M9)) : Go x9 K 2 (QX x9 K M0 c9 M9) 31 [(0, .ref v0), (1, .int v1)] [] M := by
  have hE := hX.1
  have hC := hE.1
  unfold fX4_begin_31 at h
  refine go_iconst hC dX4_begin_31 (v := (0 : Int32)) (by decide +kernel) ?_
  exact uX4_begin_32 hX _ _ _ _ h
set_option maxRecDepth 100000 in
set_option maxHeartbeats 4000000 in
theorem uX4_begin_0 {x9 : Cx} {K : Ct} {k9 : Nat} {M0 M9 : Mm} {c9 : Nat} (hX : CeX x9 K RX4 cX4_begin 2 (some .int) 8 171 "begin" M0) (v0 : Nat) (v1 : Int32) (M : Mm) (h : fX4_begin x9 k9 v0 v1 M = some (.inl c9, M9)) : Go x9 K 2 (QX x9 K M0 c9 M9) 0 [(0, .ref v0), (1, .int v1)] [] M := by
  have hE := hX.1
  have hC := hE.1
  unfold fX4_begin at h
  refine go_aload_n hC dX4_begin_0 rfl 0 rfl ?_
  refine go_iload_n hC dX4_begin_1 rfl 1 rfl ?_
  obtain ⟨h4, h⟩ := os_1 h
  rcases os_TX h with h3 | ⟨r1, M2, h3, h⟩
  · exact go_callVX (bytes := cX4_needSite) (maxL := 2) (ret := none) (n := 1) (As := [.int v1]) (st := []) hX (cX_X4_needSite K.2.1 hX.2.2 h3) (by unfold okY; decide +kernel) rfl h4 rfl (C := RX4) (T := TX4) (N := 7) rfl m_150 m_147 m_148 m_149 m_2 rfl (by simp [Value.category]) (by decide) (by decide) dX4_begin_2
  refine go_callV (bytes := cX4_needSite) (maxL := 2) (ret := none) (n := 1) (As := [.int v1]) (st := []) hE (c_X4_needSite K.2.1 h3) (by unfold okY; decide +kernel) rfl h4 rfl (C := RX4) (T := TX4) (N := 7) rfl m_150 m_147 m_148 m_149 m_2 rfl (by simp [Value.category]) (by decide) (by decide) dX4_begin_2 ?_
  refine go_eq (pc' := 5) (st' := []) (M' := M2) (lv' := [(0, .ref v0), (1, .int v1)]) ?_ rfl rfl rfl rfl
  refine go_aload_n hC dX4_begin_5 rfl 0 rfl ?_
  obtain ⟨h5, h⟩ := os_1 h
  obtain ⟨b6, h7, h⟩ := os_b h
  refine go_getR 0 hC h5 rfl rfl h7 (C := RX4) (T := TX4) (N := 7) rfl inlX4 (by decide) m_14 (Or.inl rfl) dX4_begin_6 ?_
  refine go_iload_n hC dX4_begin_9 rfl 1 rfl ?_
  obtain ⟨h8, h⟩ := os_1 h
  obtain ⟨b10, h9, h⟩ := os_b h
  refine go_aald hC h8.1 h8.2 h9 dX4_begin_10 ?_
  obtain ⟨h11, h⟩ := os_1 h
  refine go_getV 0 hC h11 rfl rfl (C := RX2) (T := TX2) (N := 5) rfl inlX2 (by decide) m_141 (Or.inl rfl) dX4_begin_11 ?_
  refine go_if_eq (t := 31) hC dX4_begin_14 (by decide) (fun c12 => ?_) (fun c12 => ?_)
  · have h := os_t h c12
    exact uX4_begin_31 hX _ _ _ h
  · have h := os_f h c12
    refine go_aload_n hC dX4_begin_17 rfl 0 rfl ?_
    obtain ⟨h13, h⟩ := os_1 h
    refine go_getV 5 hC h13 rfl rfl (C := RX4) (T := TX4) (N := 7) rfl inlX4 (by decide) m_56 (Or.inl rfl) dX4_begin_18 ?_
    refine go_sipush hC dX4_begin_21 (v := (200 : Int32)) (by decide +kernel) ?_
    refine go_icmp_ge (t := 31) hC dX4_begin_24 (by decide) (fun c14 => ?_) (fun c14 => ?_)
    · have h := os_t h c14
      exact uX4_begin_31 hX _ _ _ h
    · have h := os_f h c14
      refine go_iconst hC dX4_begin_27 (v := (1 : Int32)) (by decide +kernel) ?_
      refine go_goto (t := 32) hC dX4_begin_28 (by decide) ?_
      exact uX4_begin_32 hX _ _ _ _ h
theorem cX_X4_begin (l : Launch) (hl : l.stackTraces = false) {x9 : Cx} {k9 : Nat} {M M9 : Mm} {c9 : Nat} {v0 : Nat} {v1 : Int32} (h : fX4_begin x9 k9 v0 v1 M = some (.inl c9, M9)) : FnX l x9 yX4_begin cX4_begin 2 (some .int) 8 171 [.ref v0, .int v1] M c9 M9 :=
  FnX.of hl (by decide +kernel) (Nat.le_of_ble_eq_true rfl) rfl (fun K _ hX => uX4_begin_0 hX _ _ _ h)
/-! X4_read -/
def fX4_read_60 (x9 : Cx) (k9 : Nat) (s0 : Int32) (M : Mm) : Option ((Nat ⊕ Int32) × Mm) :=
  some (.inr s0, M)
set_option maxRecDepth 100000 in
set_option maxHeartbeats 4000000 in
theorem tX4_read_60 {x9 : Cx} {K : Ct} {k9 : Nat} {M0 M9 : Mm} {r9 : Int32} (hE : Ce x9 K RX4 cX4_read 4 (some .int) 8 131 "read" M0) (s0 : Int32) (M : Mm) (h : fX4_read_60 x9 k9 s0 M = some (.inr r9, M9)) : Go x9 K 4 (Qf x9 K M0 (some (.int r9)) M9) 60 [] [.int s0] M := by
  have hC := hE.1
  have hnm := hE.2.2.2.2.2.2.2.1
  unfold fX4_read_60 at h
  cases h
  exact go_iret hE dX4_read_60
def fX4_read (x9 : Cx) (k9 : Nat) (v0 : Nat) (v1 : Int32) (v2 : Int32) (M : Mm) : Option ((Nat ⊕ Int32) × Mm) :=
  if mK M v0 = 5 then obT (fX4_needTransaction x9 k9 v0 v1 M) (fun r1 M2 => obT (fX4_needObject x9 k9 v2 M2) (fun r5 M6 => if mK M6 v0 = 5 then ob1 (mP M6 v0 1) (fun b10 => if mK M6 b10 = 7 then ob2 (fJx4a65c_get_915e3 x9 k9 b10 v1 M6) (fun r12 M13 => if mK M13 r12 = 4 then obT (fX4_needGoingOn x9 k9 r12 M13) (fun r17 M18 => if mK M18 r12 = 4 then ob2 (fX3_wrote x9 k9 r12 v2 M18) (fun r21 M22 => if r21 = 0 then if mK M22 v0 = 5 then ob1 (mP M22 v0 0) (fun b27 => if mK M22 r12 = 4 then if (mK M22 b27 = 10 ∨ mK M22 b27 = 11) ∧ ¬ ((mV M22 r12 1) < 0 ∨ mN M22 b27 ≤ ((mV M22 r12 1)).toNatClampNeg) then ob1 (mP M22 b27 ((mV M22 r12 1)).toNatClampNeg) (fun b32 => if mK M22 r12 = 4 then ob1 (mP M22 r12 4) (fun b34 => if mK M22 v0 = 5 then ob2 (fX4_latestSeen x9 k9 v0 b32 b34 v2 M22) (fun r36 M37 => fX4_read_60 x9 k9 r36 M37) else none) else none) else none else none) else none else if mK M22 r12 = 4 then ob1 (mP M22 r12 6) (fun b41 => if mK M22 b41 = 8 ∧ ¬ (v2 < 0 ∨ mN M22 b41 ≤ (v2).toNatClampNeg) then fX4_read_60 x9 k9 (mV M22 b41 (v2).toNatClampNeg) M22 else none) else none) else none) else none) else none) else none)) else none
set_option maxRecDepth 100000 in
set_option maxHeartbeats 4000000 in
theorem tX4_read_0 {x9 : Cx} {K : Ct} {k9 : Nat} {M0 M9 : Mm} {r9 : Int32} (hE : Ce x9 K RX4 cX4_read 4 (some .int) 8 131 "read" M0) (v0 : Nat) (v1 : Int32) (v2 : Int32) (M : Mm) (h : fX4_read x9 k9 v0 v1 v2 M = some (.inr r9, M9)) : Go x9 K 4 (Qf x9 K M0 (some (.int r9)) M9) 0 [(0, .ref v0), (1, .int v1), (2, .int v2)] [] M := by
  have hC := hE.1
  have hnm := hE.2.2.2.2.2.2.2.1
  unfold fX4_read at h
  refine go_aload_n hC dX4_read_0 rfl 0 rfl ?_
  refine go_iload_n hC dX4_read_1 rfl 1 rfl ?_
  obtain ⟨h4, h⟩ := os_1 h
  obtain ⟨r1, M2, h3, h⟩ := os_TR h
  refine go_callV (bytes := cX4_needTransaction) (maxL := 2) (ret := none) (n := 1) (As := [.int v1]) (st := []) hE (c_X4_needTransaction K.2.1 h3) (by unfold okY; decide +kernel) rfl h4 rfl (C := RX4) (T := TX4) (N := 7) rfl m_270 m_267 m_268 m_269 m_2 rfl (by simp [Value.category]) (by decide) (by decide) dX4_read_2 ?_
  refine go_eq (pc' := 5) (st' := []) (M' := M2) (lv' := [(0, .ref v0), (1, .int v1), (2, .int v2)]) ?_ rfl rfl rfl rfl
  refine go_iload_n hC dX4_read_5 rfl 2 rfl ?_
  obtain ⟨r5, M6, h7, h⟩ := os_TR h
  refine go_callS (bytes := cX4_needObject) (maxL := 1) (ret := none) (n := 1) (As := [.int v2]) (st := []) hE (c_X4_needObject K.2.1 h7) (by unfold okY; decide +kernel) rfl m_273 m_271 m_272 m_2 rfl (by simp [Value.category]) (by decide) (by decide) dX4_read_6 ?_
  refine go_eq (pc' := 9) (st' := []) (M' := M6) (lv' := [(0, .ref v0), (1, .int v1), (2, .int v2)]) ?_ rfl rfl rfl rfl
  refine go_aload_n hC dX4_read_9 rfl 0 rfl ?_
  obtain ⟨h9, h⟩ := os_1 h
  obtain ⟨b10, h11, h⟩ := os_b h
  refine go_getR 1 hC h9 rfl rfl h11 (C := RX4) (T := TX4) (N := 7) rfl inlX4 (by decide) m_20 (Or.inl rfl) dX4_read_10 ?_
  refine go_iload_n hC dX4_read_13 rfl 1 rfl ?_
  obtain ⟨h15, h⟩ := os_1 h
  obtain ⟨r12, M13, h14, h⟩ := os_c h
  refine go_callV (bytes := cJx4a65c_get_915e3) (maxL := 2) (ret := (some (.object "java/lang/Object"))) (n := 1) (As := [.int v1]) (st := []) hE (c_Jx4a65c_get_915e3 K.2.1 h14) (by unfold okY; decide +kernel) rfl h15 rfl (C := RJx4a65c) (T := TJx4a65c) (N := 3) rfl m_220 m_217 m_218 m_219 m_19 rfl (by simp [Value.category]) (by decide) (by decide) dX4_read_14 ?_
  refine go_eq (pc' := 17) (st' := [.ref r12]) (M' := M13) (lv' := [(0, .ref v0), (1, .int v1), (2, .int v2)]) ?_ rfl rfl rfl rfl
  obtain ⟨h16, h⟩ := os_1 h
  refine go_cast hC h16 rfl (C := RX3) (T := TX3) (N := 16) rfl m_145 dX4_read_17 ?_
  refine go_astore_n (lv' := [(3, .ref r12), (0, .ref v0), (1, .int v1), (2, .int v2)]) hC dX4_read_20 rfl (by decide) rfl ?_
  refine go_aload_n hC dX4_read_21 rfl 0 rfl ?_
  obtain ⟨r17, M18, h19, h⟩ := os_TR h
  refine go_callS (bytes := cX4_needGoingOn) (maxL := 1) (ret := none) (n := 1) (As := [.ref r12]) (st := []) hE (c_X4_needGoingOn K.2.1 h19) (by unfold okY; decide +kernel) rfl m_276 m_274 m_275 m_2 rfl (by simp [Value.category]) (by decide) (by decide) dX4_read_22 ?_
  refine go_eq (pc' := 25) (st' := []) (M' := M18) (lv' := [(3, .ref r12), (0, .ref v0), (1, .int v1), (2, .int v2)]) ?_ rfl rfl rfl rfl
  refine go_aload_n hC dX4_read_25 rfl 0 rfl ?_
  refine go_iload_n hC dX4_read_26 rfl 3 rfl ?_
  obtain ⟨h24, h⟩ := os_1 h
  obtain ⟨r21, M22, h23, h⟩ := os_c h
  refine go_callV (bytes := cX3_wrote) (maxL := 2) (ret := (some .boolean)) (n := 1) (As := [.int v2]) (st := []) hE (c_X3_wrote K.2.1 h23) (by unfold okY; decide +kernel) rfl h24 rfl (C := RX3) (T := TX3) (N := 16) rfl m_281 m_278 m_279 m_280 m_144 rfl (by simp [Value.category]) (by decide) (by decide) dX4_read_27 ?_
  refine go_eq (pc' := 30) (st' := [.int r21]) (M' := M22) (lv' := [(3, .ref r12), (0, .ref v0), (1, .int v1), (2, .int v2)]) ?_ rfl rfl rfl rfl
  refine go_if_eq (t := 42) hC dX4_read_30 (by decide) (fun c25 => ?_) (fun c25 => ?_)
  · have h := os_t h c25
    refine go_aload_n hC dX4_read_42 rfl 1 rfl ?_
    refine go_aload_n hC dX4_read_43 rfl 1 rfl ?_
    obtain ⟨h26, h⟩ := os_1 h
    obtain ⟨b27, h28, h⟩ := os_b h
    refine go_getR 0 hC h26 rfl rfl h28 (C := RX4) (T := TX4) (N := 7) rfl inlX4 (by decide) m_14 (Or.inl rfl) dX4_read_44 ?_
    refine go_aload_n hC dX4_read_47 rfl 0 rfl ?_
    obtain ⟨h29, h⟩ := os_1 h
    refine go_getV 1 hC h29 rfl rfl (C := RX3) (T := TX3) (N := 16) rfl inlX3 (by decide) m_265 (Or.inl rfl) dX4_read_48 ?_
    obtain ⟨h30, h⟩ := os_1 h
    obtain ⟨b32, h31, h⟩ := os_b h
    refine go_aald hC h30.1 h30.2 h31 dX4_read_51 ?_
    refine go_aload_n hC dX4_read_52 rfl 0 rfl ?_
    obtain ⟨h33, h⟩ := os_1 h
    obtain ⟨b34, h35, h⟩ := os_b h
    refine go_getR 4 hC h33 rfl rfl h35 (C := RX3) (T := TX3) (N := 16) rfl inlX3 (by decide) m_266 (Or.inl rfl) dX4_read_53 ?_
    refine go_iload_n hC dX4_read_56 rfl 3 rfl ?_
    obtain ⟨h39, h⟩ := os_1 h
    obtain ⟨r36, M37, h38, h⟩ := os_c h
    refine go_callV (bytes := cX4_latestSeen) (maxL := 6) (ret := (some .int)) (n := 3) (As := [.ref b32, .ref b34, .int v2]) (st := []) hE (c_X4_latestSeen K.2.1 h38) (by unfold okY; decide +kernel) rfl h39 rfl (C := RX4) (T := TX4) (N := 7) rfl m_287 m_284 m_285 m_286 m_2 rfl (by simp [Value.category]) (by decide) (by decide) dX4_read_57 ?_
    refine go_eq (pc' := 60) (st' := [.int r36]) (M' := M37) (lv' := [(3, .ref r12), (0, .ref v0), (1, .int v1), (2, .int v2)]) ?_ rfl rfl rfl rfl
    refine go_sub (lv' := []) [] rfl ?_
    exact tX4_read_60 hE _ _ h
  · have h := os_f h c25
    refine go_aload_n hC dX4_read_33 rfl 0 rfl ?_
    obtain ⟨h40, h⟩ := os_1 h
    obtain ⟨b41, h42, h⟩ := os_b h
    refine go_getR 6 hC h40 rfl rfl h42 (C := RX3) (T := TX3) (N := 16) rfl inlX3 (by decide) m_264 (Or.inl rfl) dX4_read_34 ?_
    refine go_iload_n hC dX4_read_37 rfl 3 rfl ?_
    obtain ⟨h43, h⟩ := os_1 h
    refine go_iald hC h43.1 h43.2 dX4_read_38 ?_
    refine go_goto (t := 60) hC dX4_read_39 (by decide) ?_
    refine go_sub (lv' := []) [] rfl ?_
    exact tX4_read_60 hE _ _ h
theorem c_X4_read (l : Launch) {x9 : Cx} {k9 : Nat} {M M9 : Mm} {r9 : Int32} {v0 : Nat} {v1 : Int32} {v2 : Int32} (h : fX4_read x9 k9 v0 v1 v2 M = some (.inr r9, M9)) : Fn l x9 yX4_read cX4_read 4 (some .int) 8 131 [.ref v0, .int v1, .int v2] M (some (.int r9)) M9 :=
  Fn.of (by decide +kernel) (Nat.le_of_ble_eq_true rfl) rfl (fun K _ hE => tX4_read_0 hE _ _ _ _ h)
set_option maxRecDepth 100000 in
set_option maxHeartbeats 4000000 in
theorem uX4_read_60 {x9 : Cx} {K : Ct} {k9 : Nat} {M0 M9 : Mm} {c9 : Nat} (hX : CeX x9 K RX4 cX4_read 4 (some .int) 8 131 "read" M0) (s0 : Int32) (M : Mm) (h : fX4_read_60 x9 k9 s0 M = some (.inl c9, M9)) : Go x9 K 4 (QX x9 K M0 c9 M9) 60 [] [.int s0] M := by
  have hE := hX.1
  have hC := hE.1
  unfold fX4_read_60 at h
  cases h
set_option maxRecDepth 100000 in
set_option maxHeartbeats 4000000 in
theorem uX4_read_0 {x9 : Cx} {K : Ct} {k9 : Nat} {M0 M9 : Mm} {c9 : Nat} (hX : CeX x9 K RX4 cX4_read 4 (some .int) 8 131 "read" M0) (v0 : Nat) (v1 : Int32) (v2 : Int32) (M : Mm) (h : fX4_read x9 k9 v0 v1 v2 M = some (.inl c9, M9)) : Go x9 K 4 (QX x9 K M0 c9 M9) 0 [(0, .ref v0), (1, .int v1), (2, .int v2)] [] M := by
  have hE := hX.1
  have hC := hE.1
  unfold fX4_read at h
  refine go_aload_n hC dX4_read_0 rfl 0 rfl ?_
  refine go_iload_n hC dX4_read_1 rfl 1 rfl ?_
  obtain ⟨h4, h⟩ := os_1 h
  rcases os_TX h with h3 | ⟨r1, M2, h3, h⟩
  · exact go_callVX (bytes := cX4_needTransaction) (maxL := 2) (ret := none) (n := 1) (As := [.int v1]) (st := []) hX (cX_X4_needTransaction K.2.1 hX.2.2 h3) (by unfold okY; decide +kernel) rfl h4 rfl (C := RX4) (T := TX4) (N := 7) rfl m_270 m_267 m_268 m_269 m_2 rfl (by simp [Value.category]) (by decide) (by decide) dX4_read_2
  refine go_callV (bytes := cX4_needTransaction) (maxL := 2) (ret := none) (n := 1) (As := [.int v1]) (st := []) hE (c_X4_needTransaction K.2.1 h3) (by unfold okY; decide +kernel) rfl h4 rfl (C := RX4) (T := TX4) (N := 7) rfl m_270 m_267 m_268 m_269 m_2 rfl (by simp [Value.category]) (by decide) (by decide) dX4_read_2 ?_
  refine go_eq (pc' := 5) (st' := []) (M' := M2) (lv' := [(0, .ref v0), (1, .int v1), (2, .int v2)]) ?_ rfl rfl rfl rfl
  refine go_iload_n hC dX4_read_5 rfl 2 rfl ?_
  rcases os_TX h with h7 | ⟨r5, M6, h7, h⟩
  · exact go_callSX (bytes := cX4_needObject) (maxL := 1) (ret := none) (n := 1) (As := [.int v2]) (st := []) hX (cX_X4_needObject K.2.1 hX.2.2 h7) (by unfold okY; decide +kernel) rfl m_273 m_271 m_272 m_2 rfl (by simp [Value.category]) (by decide) (by decide) dX4_read_6
  refine go_callS (bytes := cX4_needObject) (maxL := 1) (ret := none) (n := 1) (As := [.int v2]) (st := []) hE (c_X4_needObject K.2.1 h7) (by unfold okY; decide +kernel) rfl m_273 m_271 m_272 m_2 rfl (by simp [Value.category]) (by decide) (by decide) dX4_read_6 ?_
  refine go_eq (pc' := 9) (st' := []) (M' := M6) (lv' := [(0, .ref v0), (1, .int v1), (2, .int v2)]) ?_ rfl rfl rfl rfl
  refine go_aload_n hC dX4_read_9 rfl 0 rfl ?_
  obtain ⟨h9, h⟩ := os_1 h
  obtain ⟨b10, h11, h⟩ := os_b h
  refine go_getR 1 hC h9 rfl rfl h11 (C := RX4) (T := TX4) (N := 7) rfl inlX4 (by decide) m_20 (Or.inl rfl) dX4_read_10 ?_
  refine go_iload_n hC dX4_read_13 rfl 1 rfl ?_
  obtain ⟨h15, h⟩ := os_1 h
  obtain ⟨r12, M13, h14, h⟩ := os_c h
  refine go_callV (bytes := cJx4a65c_get_915e3) (maxL := 2) (ret := (some (.object "java/lang/Object"))) (n := 1) (As := [.int v1]) (st := []) hE (c_Jx4a65c_get_915e3 K.2.1 h14) (by unfold okY; decide +kernel) rfl h15 rfl (C := RJx4a65c) (T := TJx4a65c) (N := 3) rfl m_220 m_217 m_218 m_219 m_19 rfl (by simp [Value.category]) (by decide) (by decide) dX4_read_14 ?_
  refine go_eq (pc' := 17) (st' := [.ref r12]) (M' := M13) (lv' := [(0, .ref v0), (1, .int v1), (2, .int v2)]) ?_ rfl rfl rfl rfl
  obtain ⟨h16, h⟩ := os_1 h
  refine go_cast hC h16 rfl (C := RX3) (T := TX3) (N := 16) rfl m_145 dX4_read_17 ?_
  refine go_astore_n (lv' := [(3, .ref r12), (0, .ref v0), (1, .int v1), (2, .int v2)]) hC dX4_read_20 rfl (by decide) rfl ?_
  refine go_aload_n hC dX4_read_21 rfl 0 rfl ?_
  rcases os_TX h with h19 | ⟨r17, M18, h19, h⟩
  · exact go_callSX (bytes := cX4_needGoingOn) (maxL := 1) (ret := none) (n := 1) (As := [.ref r12]) (st := []) hX (cX_X4_needGoingOn K.2.1 hX.2.2 h19) (by unfold okY; decide +kernel) rfl m_276 m_274 m_275 m_2 rfl (by simp [Value.category]) (by decide) (by decide) dX4_read_22
  refine go_callS (bytes := cX4_needGoingOn) (maxL := 1) (ret := none) (n := 1) (As := [.ref r12]) (st := []) hE (c_X4_needGoingOn K.2.1 h19) (by unfold okY; decide +kernel) rfl m_276 m_274 m_275 m_2 rfl (by simp [Value.category]) (by decide) (by decide) dX4_read_22 ?_
  refine go_eq (pc' := 25) (st' := []) (M' := M18) (lv' := [(3, .ref r12), (0, .ref v0), (1, .int v1), (2, .int v2)]) ?_ rfl rfl rfl rfl
  refine go_aload_n hC dX4_read_25 rfl 0 rfl ?_
  refine go_iload_n hC dX4_read_26 rfl 3 rfl ?_
  obtain ⟨h24, h⟩ := os_1 h
  obtain ⟨r21, M22, h23, h⟩ := os_c h
  refine go_callV (bytes := cX3_wrote) (maxL := 2) (ret := (some .boolean)) (n := 1) (As := [.int v2]) (st := []) hE (c_X3_wrote K.2.1 h23) (by unfold okY; decide +kernel) rfl h24 rfl (C := RX3) (T := TX3) (N := 16) rfl m_281 m_278 m_279 m_280 m_144 rfl (by simp [Value.category]) (by decide) (by decide) dX4_read_27 ?_
  refine go_eq (pc' := 30) (st' := [.int r21]) (M' := M22) (lv' := [(3, .ref r12), (0, .ref v0), (1, .int v1), (2, .int v2)]) ?_ rfl rfl rfl rfl
  refine go_if_eq (t := 42) hC dX4_read_30 (by decide) (fun c25 => ?_) (fun c25 => ?_)
  · have h := os_t h c25
    refine go_aload_n hC dX4_read_42 rfl 1 rfl ?_
    refine go_aload_n hC dX4_read_43 rfl 1 rfl ?_
    obtain ⟨h26, h⟩ := os_1 h
    obtain ⟨b27, h28, h⟩ := os_b h
    refine go_getR 0 hC h26 rfl rfl h28 (C := RX4) (T := TX4) (N := 7) rfl inlX4 (by decide) m_14 (Or.inl rfl) dX4_read_44 ?_
    refine go_aload_n hC dX4_read_47 rfl 0 rfl ?_
    obtain ⟨h29, h⟩ := os_1 h
    refine go_getV 1 hC h29 rfl rfl (C := RX3) (T := TX3) (N := 16) rfl inlX3 (by decide) m_265 (Or.inl rfl) dX4_read_48 ?_
    obtain ⟨h30, h⟩ := os_1 h
    obtain ⟨b32, h31, h⟩ := os_b h
    refine go_aald hC h30.1 h30.2 h31 dX4_read_51 ?_
    refine go_aload_n hC dX4_read_52 rfl 0 rfl ?_
    obtain ⟨h33, h⟩ := os_1 h
    obtain ⟨b34, h35, h⟩ := os_b h
    refine go_getR 4 hC h33 rfl rfl h35 (C := RX3) (T := TX3) (N := 16) rfl inlX3 (by decide) m_266 (Or.inl rfl) dX4_read_53 ?_
    refine go_iload_n hC dX4_read_56 rfl 3 rfl ?_
    obtain ⟨h39, h⟩ := os_1 h
    obtain ⟨r36, M37, h38, h⟩ := os_c h
    refine go_callV (bytes := cX4_latestSeen) (maxL := 6) (ret := (some .int)) (n := 3) (As := [.ref b32, .ref b34, .int v2]) (st := []) hE (c_X4_latestSeen K.2.1 h38) (by unfold okY; decide +kernel) rfl h39 rfl (C := RX4) (T := TX4) (N := 7) rfl m_287 m_284 m_285 m_286 m_2 rfl (by simp [Value.category]) (by decide) (by decide) dX4_read_57 ?_
    refine go_eq (pc' := 60) (st' := [.int r36]) (M' := M37) (lv' := [(3, .ref r12), (0, .ref v0), (1, .int v1), (2, .int v2)]) ?_ rfl rfl rfl rfl
    refine go_sub (lv' := []) [] rfl ?_
    exact uX4_read_60 hX _ _ h
  · have h := os_f h c25
    refine go_aload_n hC dX4_read_33 rfl 0 rfl ?_
    obtain ⟨h40, h⟩ := os_1 h
    obtain ⟨b41, h42, h⟩ := os_b h
    refine go_getR 6 hC h40 rfl rfl h42 (C := RX3) (T := TX3) (N := 16) rfl inlX3 (by decide) m_264 (Or.inl rfl) dX4_read_34 ?_
    refine go_iload_n hC dX4_read_37 rfl 3 rfl ?_
    obtain ⟨h43, h⟩ := os_1 h
    refine go_iald hC h43.1 h43.2 dX4_read_38 ?_
    refine go_goto (t := 60) hC dX4_read_39 (by decide) ?_
    refine go_sub (lv' := []) [] rfl ?_
    exact uX4_read_60 hX _ _ h
theorem cX_X4_read (l : Launch) (hl : l.stackTraces = false) {x9 : Cx} {k9 : Nat} {M M9 : Mm} {c9 : Nat} {v0 : Nat} {v1 : Int32} {v2 : Int32} (h : fX4_read x9 k9 v0 v1 v2 M = some (.inl c9, M9)) : FnX l x9 yX4_read cX4_read 4 (some .int) 8 131 [.ref v0, .int v1, .int v2] M c9 M9 :=
  FnX.of hl (by decide +kernel) (Nat.le_of_ble_eq_true rfl) rfl (fun K _ hX => uX4_read_0 hX _ _ _ _ h)
/-! X4_write -/
def fX4_write_51 (x9 : Cx) (k9 : Nat) (v2 : Int32) (v3 : Int32) (v4 : Nat) (s0 : Int32) (M : Mm) : Option ((Nat ⊕ Int32) × Mm) :=
  obT (fX4_needState x9 k9 s0 M) (fun r1 M2 => if mK M2 v4 = 4 then if mK M2 v4 = 4 then if mK (sV M2 v4 5 ((mV M2 v4 5) ||| ((1 : Int32) <<< (v2 &&& 31)))) v4 = 4 then ob1 (mP (sV M2 v4 5 ((mV M2 v4 5) ||| ((1 : Int32) <<< (v2 &&& 31)))) v4 6) (fun b8 => if mK (sV M2 v4 5 ((mV M2 v4 5) ||| ((1 : Int32) <<< (v2 &&& 31)))) b8 = 8 ∧ ¬ (v2 < 0 ∨ mN (sV M2 v4 5 ((mV M2 v4 5) ||| ((1 : Int32) <<< (v2 &&& 31)))) b8 ≤ (v2).toNatClampNeg) then lt1 (sV (sV M2 v4 5 ((mV M2 v4 5) ||| ((1 : Int32) <<< (v2 &&& 31)))) b8 (v2).toNatClampNeg v3) (fun M11 => if mK M11 v4 = 4 then ob2 (fX3_writtenCount x9 k9 v4 M11) (fun r13 M14 => some (.inr r13, M14)) else none) else none) else none else none else none)
set_option maxRecDepth 100000 in
set_option maxHeartbeats 4000000 in
theorem tX4_write_51 {x9 : Cx} {K : Ct} {k9 : Nat} {M0 M9 : Mm} {r9 : Int32} (hE : Ce x9 K RX4 cX4_write 5 (some .int) 8 131 "write" M0) (v2 : Int32) (v3 : Int32) (v4 : Nat) (s0 : Int32) (M : Mm) (h : fX4_write_51 x9 k9 v2 v3 v4 s0 M = some (.inr r9, M9)) : Go x9 K 5 (Qf x9 K M0 (some (.int r9)) M9) 51 [(2, .int v2), (3, .int v3), (4, .ref v4)] [.int s0] M := by
  have hC := hE.1
  have hnm := hE.2.2.2.2.2.2.2.1
  unfold fX4_write_51 at h
  obtain ⟨r1, M2, h3, h⟩ := os_TR h
  refine go_callS (bytes := cX4_needState) (maxL := 1) (ret := none) (n := 1) (As := [.int s0]) (st := []) hE (c_X4_needState K.2.1 h3) (by unfold okY; decide +kernel) rfl m_153 m_151 m_152 m_2 rfl (by simp [Value.category]) (by decide) (by decide) dX4_write_51 ?_
  refine go_eq (pc' := 54) (st' := []) (M' := M2) (lv' := [(2, .int v2), (3, .int v3), (4, .ref v4)]) ?_ rfl rfl rfl rfl
  refine go_aload hC dX4_write_54 2 rfl ?_
  refine go_dup hC dX4_write_56 rfl ?_
  obtain ⟨h5, h⟩ := os_1 h
  refine go_getV 5 hC h5 rfl rfl (C := RX3) (T := TX3) (N := 16) rfl inlX3 (by decide) m_320 (Or.inl rfl) dX4_write_57 ?_
  refine go_iconst hC dX4_write_60 (v := (1 : Int32)) (by decide +kernel) ?_
  refine go_iload_n hC dX4_write_61 rfl 0 rfl ?_
  refine go_ishl hC dX4_write_62 ?_
  refine go_ior hC dX4_write_63 ?_
  obtain ⟨h6, h⟩ := os_1 h
  refine go_putV 5 hC h6 rfl rfl (C := RX3) (T := TX3) (N := 16) rfl inlX3 tyX3 tyX3_ok nmX3 (by decide) m_320 (Or.inl rfl) (Or.inl rfl) (tyX3_ok 5 (by decide)) rfl rfl dX4_write_64 ?_
  refine go_aload hC dX4_write_67 2 rfl ?_
  obtain ⟨h7, h⟩ := os_1 h
  obtain ⟨b8, h9, h⟩ := os_b h
  refine go_getR 6 hC h7 rfl rfl h9 (C := RX3) (T := TX3) (N := 16) rfl inlX3 (by decide) m_264 (Or.inl rfl) dX4_write_69 ?_
  refine go_iload_n hC dX4_write_72 rfl 0 rfl ?_
  refine go_iload_n hC dX4_write_73 rfl 1 rfl ?_
  obtain ⟨h10, h⟩ := os_1 h
  refine go_iast hC h10.1 h10.2 dX4_write_74 ?_
  obtain ⟨M11, e12, h⟩ := os_l h
  refine go_eq (pc' := 75) (st' := []) (M' := M11) (lv' := [(2, .int v2), (3, .int v3), (4, .ref v4)]) ?_ rfl rfl rfl e12
  refine go_aload hC dX4_write_75 2 rfl ?_
  obtain ⟨h16, h⟩ := os_1 h
  obtain ⟨r13, M14, h15, h⟩ := os_c h
  refine go_callV (bytes := cX3_writtenCount) (maxL := 1) (ret := (some .int)) (n := 0) (As := []) (st := []) hE (c_X3_writtenCount K.2.1 h15) (by unfold okY; decide +kernel) rfl h16 rfl (C := RX3) (T := TX3) (N := 16) rfl m_324 m_321 m_322 m_323 m_144 rfl (by simp [Value.category]) (by decide) (by decide) dX4_write_77 ?_
  refine go_eq (pc' := 80) (st' := [.int r13]) (M' := M14) (lv' := [(2, .int v2), (3, .int v3), (4, .ref v4)]) ?_ rfl rfl rfl rfl
  cases h
  exact go_iret hE dX4_write_80
def fX4_write_46 (x9 : Cx) (k9 : Nat) (v2 : Int32) (v3 : Int32) (v4 : Nat) (M : Mm) : Option ((Nat ⊕ Int32) × Mm) :=
  fX4_write_51 x9 k9 v2 v3 v4 (1 : Int32) M
set_option maxRecDepth 100000 in
set_option maxHeartbeats 4000000 in
theorem tX4_write_46 {x9 : Cx} {K : Ct} {k9 : Nat} {M0 M9 : Mm} {r9 : Int32} (hE : Ce x9 K RX4 cX4_write 5 (some .int) 8 131 "write" M0) (v2 : Int32) (v3 : Int32) (v4 : Nat) (M : Mm) (h : fX4_write_46 x9 k9 v2 v3 v4 M = some (.inr r9, M9)) : Go x9 K 5 (Qf x9 K M0 (some (.int r9)) M9) 46 [(2, .int v2), (3, .int v3), (4, .ref v4)] [] M := by
  have hC := hE.1
  have hnm := hE.2.2.2.2.2.2.2.1
  unfold fX4_write_46 at h
  refine go_iconst hC dX4_write_46 (v := (1 : Int32)) (by decide +kernel) ?_
  refine go_goto (t := 51) hC dX4_write_47 (by decide) ?_
  exact tX4_write_51 hE _ _ _ _ _ h
def fX4_write (x9 : Cx) (k9 : Nat) (v0 : Nat) (v1 : Int32) (v2 : Int32) (v3 : Int32) (M : Mm) : Option ((Nat ⊕ Int32) × Mm) :=
  if mK M v0 = 5 then obT (fX4_needTransaction x9 k9 v0 v1 M) (fun r1 M2 => obT (fX4_needObject x9 k9 v2 M2) (fun r5 M6 => if mK M6 v0 = 5 then ob1 (mP M6 v0 1) (fun b10 => if mK M6 b10 = 7 then ob2 (fJx4a65c_get_915e3 x9 k9 b10 v1 M6) (fun r12 M13 => if mK M13 r12 = 4 then obT (fX4_needGoingOn x9 k9 r12 M13) (fun r17 M18 => if mK M18 r12 = 4 then ob2 (fX3_wrote x9 k9 r12 v2 M18) (fun r21 M22 => if r21 = 0 then if mK M22 r12 = 4 then ob2 (fX3_writtenCount x9 k9 r12 M22) (fun r26 M27 => if (10 : Int32) ≤ r26 then fX4_write_51 x9 k9 v2 v3 r12 (0 : Int32) M27 else fX4_write_46 x9 k9 v2 v3 r12 M27) else none else fX4_write_46 x9 k9 v2 v3 r12 M22) else none) else none) else none) else none)) else none
set_option maxRecDepth 100000 in
set_option maxHeartbeats 4000000 in
theorem tX4_write_0 {x9 : Cx} {K : Ct} {k9 : Nat} {M0 M9 : Mm} {r9 : Int32} (hE : Ce x9 K RX4 cX4_write 5 (some .int) 8 131 "write" M0) (v0 : Nat) (v1 : Int32) (v2 : Int32) (v3 : Int32) (M : Mm) (h : fX4_write x9 k9 v0 v1 v2 v3 M = some (.inr r9, M9)) : Go x9 K 5 (Qf x9 K M0 (some (.int r9)) M9) 0 [(0, .ref v0), (1, .int v1), (2, .int v2), (3, .int v3)] [] M := by
  have hC := hE.1
  have hnm := hE.2.2.2.2.2.2.2.1
  unfold fX4_write at h
  refine go_aload_n hC dX4_write_0 rfl 0 rfl ?_
  refine go_iload_n hC dX4_write_1 rfl 1 rfl ?_
  obtain ⟨h4, h⟩ := os_1 h
  obtain ⟨r1, M2, h3, h⟩ := os_TR h
  refine go_callV (bytes := cX4_needTransaction) (maxL := 2) (ret := none) (n := 1) (As := [.int v1]) (st := []) hE (c_X4_needTransaction K.2.1 h3) (by unfold okY; decide +kernel) rfl h4 rfl (C := RX4) (T := TX4) (N := 7) rfl m_270 m_267 m_268 m_269 m_2 rfl (by simp [Value.category]) (by decide) (by decide) dX4_write_2 ?_
  refine go_eq (pc' := 5) (st' := []) (M' := M2) (lv' := [(0, .ref v0), (1, .int v1), (2, .int v2), (3, .int v3)]) ?_ rfl rfl rfl rfl
  refine go_iload_n hC dX4_write_5 rfl 2 rfl ?_
  obtain ⟨r5, M6, h7, h⟩ := os_TR h
  refine go_callS (bytes := cX4_needObject) (maxL := 1) (ret := none) (n := 1) (As := [.int v2]) (st := []) hE (c_X4_needObject K.2.1 h7) (by unfold okY; decide +kernel) rfl m_273 m_271 m_272 m_2 rfl (by simp [Value.category]) (by decide) (by decide) dX4_write_6 ?_
  refine go_eq (pc' := 9) (st' := []) (M' := M6) (lv' := [(0, .ref v0), (1, .int v1), (2, .int v2), (3, .int v3)]) ?_ rfl rfl rfl rfl
  refine go_aload_n hC dX4_write_9 rfl 0 rfl ?_
  obtain ⟨h9, h⟩ := os_1 h
  obtain ⟨b10, h11, h⟩ := os_b h
  refine go_getR 1 hC h9 rfl rfl h11 (C := RX4) (T := TX4) (N := 7) rfl inlX4 (by decide) m_20 (Or.inl rfl) dX4_write_10 ?_
  refine go_iload_n hC dX4_write_13 rfl 1 rfl ?_
  obtain ⟨h15, h⟩ := os_1 h
  obtain ⟨r12, M13, h14, h⟩ := os_c h
  refine go_callV (bytes := cJx4a65c_get_915e3) (maxL := 2) (ret := (some (.object "java/lang/Object"))) (n := 1) (As := [.int v1]) (st := []) hE (c_Jx4a65c_get_915e3 K.2.1 h14) (by unfold okY; decide +kernel) rfl h15 rfl (C := RJx4a65c) (T := TJx4a65c) (N := 3) rfl m_220 m_217 m_218 m_219 m_19 rfl (by simp [Value.category]) (by decide) (by decide) dX4_write_14 ?_
  refine go_eq (pc' := 17) (st' := [.ref r12]) (M' := M13) (lv' := [(0, .ref v0), (1, .int v1), (2, .int v2), (3, .int v3)]) ?_ rfl rfl rfl rfl
  obtain ⟨h16, h⟩ := os_1 h
  refine go_cast hC h16 rfl (C := RX3) (T := TX3) (N := 16) rfl m_145 dX4_write_17 ?_
  refine go_astore (lv' := [(4, .ref r12), (0, .ref v0), (1, .int v1), (2, .int v2), (3, .int v3)]) hC dX4_write_20 (by decide) rfl ?_
  refine go_aload hC dX4_write_22 0 rfl ?_
  obtain ⟨r17, M18, h19, h⟩ := os_TR h
  refine go_callS (bytes := cX4_needGoingOn) (maxL := 1) (ret := none) (n := 1) (As := [.ref r12]) (st := []) hE (c_X4_needGoingOn K.2.1 h19) (by unfold okY; decide +kernel) rfl m_276 m_274 m_275 m_2 rfl (by simp [Value.category]) (by decide) (by decide) dX4_write_24 ?_
  refine go_eq (pc' := 27) (st' := []) (M' := M18) (lv' := [(4, .ref r12), (0, .ref v0), (1, .int v1), (2, .int v2), (3, .int v3)]) ?_ rfl rfl rfl rfl
  refine go_aload hC dX4_write_27 0 rfl ?_
  refine go_iload_n hC dX4_write_29 rfl 3 rfl ?_
  obtain ⟨h24, h⟩ := os_1 h
  obtain ⟨r21, M22, h23, h⟩ := os_c h
  refine go_callV (bytes := cX3_wrote) (maxL := 2) (ret := (some .boolean)) (n := 1) (As := [.int v2]) (st := []) hE (c_X3_wrote K.2.1 h23) (by unfold okY; decide +kernel) rfl h24 rfl (C := RX3) (T := TX3) (N := 16) rfl m_281 m_278 m_279 m_280 m_144 rfl (by simp [Value.category]) (by decide) (by decide) dX4_write_30 ?_
  refine go_eq (pc' := 33) (st' := [.int r21]) (M' := M22) (lv' := [(4, .ref r12), (0, .ref v0), (1, .int v1), (2, .int v2), (3, .int v3)]) ?_ rfl rfl rfl rfl
  refine go_if_ne (t := 46) hC dX4_write_33 (by decide) (fun c25 => ?_) (fun c25 => ?_)
  · have h := os_f h c25
    refine go_sub (lv' := [(2, .int v2), (3, .int v3), (4, .ref r12)]) [3, 4, 0] rfl ?_
    exact tX4_write_46 hE _ _ _ _ h
  · have h := os_t h c25
    refine go_aload hC dX4_write_36 0 rfl ?_
    obtain ⟨h29, h⟩ := os_1 h
    obtain ⟨r26, M27, h28, h⟩ := os_c h
    refine go_callV (bytes := cX3_writtenCount) (maxL := 1) (ret := (some .int)) (n := 0) (As := []) (st := []) hE (c_X3_writtenCount K.2.1 h28) (by unfold okY; decide +kernel) rfl h29 rfl (C := RX3) (T := TX3) (N := 16) rfl m_324 m_321 m_322 m_323 m_144 rfl (by simp [Value.category]) (by decide) (by decide) dX4_write_38 ?_
    refine go_eq (pc' := 41) (st' := [.int r26]) (M' := M27) (lv' := [(4, .ref r12), (0, .ref v0), (1, .int v1), (2, .int v2), (3, .int v3)]) ?_ rfl rfl rfl rfl
    refine go_bipush hC dX4_write_41 (v := (10 : Int32)) (by decide +kernel) ?_
    refine go_icmp_ge (t := 50) hC dX4_write_43 (by decide) (fun c30 => ?_) (fun c30 => ?_)
    · have h := os_t h c30
      refine go_iconst hC dX4_write_50 (v := (0 : Int32)) (by decide +kernel) ?_
      refine go_sub (lv' := [(2, .int v2), (3, .int v3), (4, .ref r12)]) [3, 4, 0] rfl ?_
      exact tX4_write_51 hE _ _ _ _ _ h
    · have h := os_f h c30
      refine go_sub (lv' := [(2, .int v2), (3, .int v3), (4, .ref r12)]) [3, 4, 0] rfl ?_
      exact tX4_write_46 hE _ _ _ _ h
theorem c_X4_write (l : Launch) {x9 : Cx} {k9 : Nat} {M M9 : Mm} {r9 : Int32} {v0 : Nat} {v1 : Int32} {v2 : Int32} {v3 : Int32} (h : fX4_write x9 k9 v0 v1 v2 v3 M = some (.inr r9, M9)) : Fn l x9 yX4_write cX4_write 5 (some .int) 8 131 [.ref v0, .int v1, .int v2, .int v3] M (some (.int r9)) M9 :=
  Fn.of (by decide +kernel) (Nat.le_of_ble_eq_true rfl) rfl (fun K _ hE => tX4_write_0 hE _ _ _ _ _ h)
set_option maxRecDepth 100000 in
set_option maxHeartbeats 4000000 in
theorem uX4_write_51 {x9 : Cx} {K : Ct} {k9 : Nat} {M0 M9 : Mm} {c9 : Nat} (hX : CeX x9 K RX4 cX4_write 5 (some .int) 8 131 "write" M0) (v2 : Int32) (v3 : Int32) (v4 : Nat) (s0 : Int32) (M : Mm) (h : fX4_write_51 x9 k9 v2 v3 v4 s0 M = some (.inl c9, M9)) : Go x9 K 5 (QX x9 K M0 c9 M9) 51 [(2, .int v2), (3, .int v3), (4, .ref v4)] [.int s0] M := by
  have hE := hX.1
  have hC := hE.1
  unfold fX4_write_51 at h
  rcases os_TX h with h3 | ⟨r1, M2, h3, h⟩
  · exact go_callSX (bytes := cX4_needState) (maxL := 1) (ret := none) (n := 1) (As := [.int s0]) (st := []) hX (cX_X4_needState K.2.1 hX.2.2 h3) (by unfold okY; decide +kernel) rfl m_153 m_151 m_152 m_2 rfl (by simp [Value.category]) (by decide) (by decide) dX4_write_51
  refine go_callS (bytes := cX4_needState) (maxL := 1) (ret := none) (n := 1) (As := [.int s0]) (st := []) hE (c_X4_needState K.2.1 h3) (by unfold okY; decide +kernel) rfl m_153 m_151 m_152 m_2 rfl (by simp [Value.category]) (by decide) (by decide) dX4_write_51 ?_
  refine go_eq (pc' := 54) (st' := []) (M' := M2) (lv' := [(2, .int v2), (3, .int v3), (4, .ref v4)]) ?_ rfl rfl rfl rfl
  refine go_aload hC dX4_write_54 2 rfl ?_
  refine go_dup hC dX4_write_56 rfl ?_
  obtain ⟨h5, h⟩ := os_1 h
  refine go_getV 5 hC h5 rfl rfl (C := RX3) (T := TX3) (N := 16) rfl inlX3 (by decide) m_320 (Or.inl rfl) dX4_write_57 ?_
  refine go_iconst hC dX4_write_60 (v := (1 : Int32)) (by decide +kernel) ?_
  refine go_iload_n hC dX4_write_61 rfl 0 rfl ?_
  refine go_ishl hC dX4_write_62 ?_
  refine go_ior hC dX4_write_63 ?_
  obtain ⟨h6, h⟩ := os_1 h
  refine go_putV 5 hC h6 rfl rfl (C := RX3) (T := TX3) (N := 16) rfl inlX3 tyX3 tyX3_ok nmX3 (by decide) m_320 (Or.inl rfl) (Or.inl rfl) (tyX3_ok 5 (by decide)) rfl rfl dX4_write_64 ?_
  refine go_aload hC dX4_write_67 2 rfl ?_
  obtain ⟨h7, h⟩ := os_1 h
  obtain ⟨b8, h9, h⟩ := os_b h
  refine go_getR 6 hC h7 rfl rfl h9 (C := RX3) (T := TX3) (N := 16) rfl inlX3 (by decide) m_264 (Or.inl rfl) dX4_write_69 ?_
  refine go_iload_n hC dX4_write_72 rfl 0 rfl ?_
  refine go_iload_n hC dX4_write_73 rfl 1 rfl ?_
  obtain ⟨h10, h⟩ := os_1 h
  refine go_iast hC h10.1 h10.2 dX4_write_74 ?_
  obtain ⟨M11, e12, h⟩ := os_l h
  refine go_eq (pc' := 75) (st' := []) (M' := M11) (lv' := [(2, .int v2), (3, .int v3), (4, .ref v4)]) ?_ rfl rfl rfl e12
  refine go_aload hC dX4_write_75 2 rfl ?_
  obtain ⟨h16, h⟩ := os_1 h
  obtain ⟨r13, M14, h15, h⟩ := os_c h
  refine go_callV (bytes := cX3_writtenCount) (maxL := 1) (ret := (some .int)) (n := 0) (As := []) (st := []) hE (c_X3_writtenCount K.2.1 h15) (by unfold okY; decide +kernel) rfl h16 rfl (C := RX3) (T := TX3) (N := 16) rfl m_324 m_321 m_322 m_323 m_144 rfl (by simp [Value.category]) (by decide) (by decide) dX4_write_77 ?_
  refine go_eq (pc' := 80) (st' := [.int r13]) (M' := M14) (lv' := [(2, .int v2), (3, .int v3), (4, .ref v4)]) ?_ rfl rfl rfl rfl
  cases h
set_option maxRecDepth 100000 in
set_option maxHeartbeats 4000000 in
theorem uX4_write_46 {x9 : Cx} {K : Ct} {k9 : Nat} {M0 M9 : Mm} {c9 : Nat} (hX : CeX x9 K RX4 cX4_write 5 (some .int) 8 131 "write" M0) (v2 : Int32) (v3 : Int32) (v4 : Nat) (M : Mm) (h : fX4_write_46 x9 k9 v2 v3 v4 M = some (.inl c9, M9)) : Go x9 K 5 (QX x9 K M0 c9 M9) 46 [(2, .int v2), (3, .int v3), (4, .ref v4)] [] M := by
  have hE := hX.1
  have hC := hE.1
  unfold fX4_write_46 at h
  refine go_iconst hC dX4_write_46 (v := (1 : Int32)) (by decide +kernel) ?_
  refine go_goto (t := 51) hC dX4_write_47 (by decide) ?_
  exact uX4_write_51 hX _ _ _ _ _ h
set_option maxRecDepth 100000 in
set_option maxHeartbeats 4000000 in
theorem uX4_write_0 {x9 : Cx} {K : Ct} {k9 : Nat} {M0 M9 : Mm} {c9 : Nat} (hX : CeX x9 K RX4 cX4_write 5 (some .int) 8 131 "write" M0) (v0 : Nat) (v1 : Int32) (v2 : Int32) (v3 : Int32) (M : Mm) (h : fX4_write x9 k9 v0 v1 v2 v3 M = some (.inl c9, M9)) : Go x9 K 5 (QX x9 K M0 c9 M9) 0 [(0, .ref v0), (1, .int v1), (2, .int v2), (3, .int v3)] [] M := by
  have hE := hX.1
  have hC := hE.1
  unfold fX4_write at h
  refine go_aload_n hC dX4_write_0 rfl 0 rfl ?_
  refine go_iload_n hC dX4_write_1 rfl 1 rfl ?_
  obtain ⟨h4, h⟩ := os_1 h
  rcases os_TX h with h3 | ⟨r1, M2, h3, h⟩
  · exact go_callVX (bytes := cX4_needTransaction) (maxL := 2) (ret := none) (n := 1) (As := [.int v1]) (st := []) hX (cX_X4_needTransaction K.2.1 hX.2.2 h3) (by unfold okY; decide +kernel) rfl h4 rfl (C := RX4) (T := TX4) (N := 7) rfl m_270 m_267 m_268 m_269 m_2 rfl (by simp [Value.category]) (by decide) (by decide) dX4_write_2
  refine go_callV (bytes := cX4_needTransaction) (maxL := 2) (ret := none) (n := 1) (As := [.int v1]) (st := []) hE (c_X4_needTransaction K.2.1 h3) (by unfold okY; decide +kernel) rfl h4 rfl (C := RX4) (T := TX4) (N := 7) rfl m_270 m_267 m_268 m_269 m_2 rfl (by simp [Value.category]) (by decide) (by decide) dX4_write_2 ?_
  refine go_eq (pc' := 5) (st' := []) (M' := M2) (lv' := [(0, .ref v0), (1, .int v1), (2, .int v2), (3, .int v3)]) ?_ rfl rfl rfl rfl
  refine go_iload_n hC dX4_write_5 rfl 2 rfl ?_
  rcases os_TX h with h7 | ⟨r5, M6, h7, h⟩
  · exact go_callSX (bytes := cX4_needObject) (maxL := 1) (ret := none) (n := 1) (As := [.int v2]) (st := []) hX (cX_X4_needObject K.2.1 hX.2.2 h7) (by unfold okY; decide +kernel) rfl m_273 m_271 m_272 m_2 rfl (by simp [Value.category]) (by decide) (by decide) dX4_write_6
  refine go_callS (bytes := cX4_needObject) (maxL := 1) (ret := none) (n := 1) (As := [.int v2]) (st := []) hE (c_X4_needObject K.2.1 h7) (by unfold okY; decide +kernel) rfl m_273 m_271 m_272 m_2 rfl (by simp [Value.category]) (by decide) (by decide) dX4_write_6 ?_
  refine go_eq (pc' := 9) (st' := []) (M' := M6) (lv' := [(0, .ref v0), (1, .int v1), (2, .int v2), (3, .int v3)]) ?_ rfl rfl rfl rfl
  refine go_aload_n hC dX4_write_9 rfl 0 rfl ?_
  obtain ⟨h9, h⟩ := os_1 h
  obtain ⟨b10, h11, h⟩ := os_b h
  refine go_getR 1 hC h9 rfl rfl h11 (C := RX4) (T := TX4) (N := 7) rfl inlX4 (by decide) m_20 (Or.inl rfl) dX4_write_10 ?_
  refine go_iload_n hC dX4_write_13 rfl 1 rfl ?_
  obtain ⟨h15, h⟩ := os_1 h
  obtain ⟨r12, M13, h14, h⟩ := os_c h
  refine go_callV (bytes := cJx4a65c_get_915e3) (maxL := 2) (ret := (some (.object "java/lang/Object"))) (n := 1) (As := [.int v1]) (st := []) hE (c_Jx4a65c_get_915e3 K.2.1 h14) (by unfold okY; decide +kernel) rfl h15 rfl (C := RJx4a65c) (T := TJx4a65c) (N := 3) rfl m_220 m_217 m_218 m_219 m_19 rfl (by simp [Value.category]) (by decide) (by decide) dX4_write_14 ?_
  refine go_eq (pc' := 17) (st' := [.ref r12]) (M' := M13) (lv' := [(0, .ref v0), (1, .int v1), (2, .int v2), (3, .int v3)]) ?_ rfl rfl rfl rfl
  obtain ⟨h16, h⟩ := os_1 h
  refine go_cast hC h16 rfl (C := RX3) (T := TX3) (N := 16) rfl m_145 dX4_write_17 ?_
  refine go_astore (lv' := [(4, .ref r12), (0, .ref v0), (1, .int v1), (2, .int v2), (3, .int v3)]) hC dX4_write_20 (by decide) rfl ?_
  refine go_aload hC dX4_write_22 0 rfl ?_
  rcases os_TX h with h19 | ⟨r17, M18, h19, h⟩
  · exact go_callSX (bytes := cX4_needGoingOn) (maxL := 1) (ret := none) (n := 1) (As := [.ref r12]) (st := []) hX (cX_X4_needGoingOn K.2.1 hX.2.2 h19) (by unfold okY; decide +kernel) rfl m_276 m_274 m_275 m_2 rfl (by simp [Value.category]) (by decide) (by decide) dX4_write_24
  refine go_callS (bytes := cX4_needGoingOn) (maxL := 1) (ret := none) (n := 1) (As := [.ref r12]) (st := []) hE (c_X4_needGoingOn K.2.1 h19) (by unfold okY; decide +kernel) rfl m_276 m_274 m_275 m_2 rfl (by simp [Value.category]) (by decide) (by decide) dX4_write_24 ?_
  refine go_eq (pc' := 27) (st' := []) (M' := M18) (lv' := [(4, .ref r12), (0, .ref v0), (1, .int v1), (2, .int v2), (3, .int v3)]) ?_ rfl rfl rfl rfl
  refine go_aload hC dX4_write_27 0 rfl ?_
  refine go_iload_n hC dX4_write_29 rfl 3 rfl ?_
  obtain ⟨h24, h⟩ := os_1 h
  obtain ⟨r21, M22, h23, h⟩ := os_c h
  refine go_callV (bytes := cX3_wrote) (maxL := 2) (ret := (some .boolean)) (n := 1) (As := [.int v2]) (st := []) hE (c_X3_wrote K.2.1 h23) (by unfold okY; decide +kernel) rfl h24 rfl (C := RX3) (T := TX3) (N := 16) rfl m_281 m_278 m_279 m_280 m_144 rfl (by simp [Value.category]) (by decide) (by decide) dX4_write_30 ?_
  refine go_eq (pc' := 33) (st' := [.int r21]) (M' := M22) (lv' := [(4, .ref r12), (0, .ref v0), (1, .int v1), (2, .int v2), (3, .int v3)]) ?_ rfl rfl rfl rfl
  refine go_if_ne (t := 46) hC dX4_write_33 (by decide) (fun c25 => ?_) (fun c25 => ?_)
  · have h := os_f h c25
    refine go_sub (lv' := [(2, .int v2), (3, .int v3), (4, .ref r12)]) [3, 4, 0] rfl ?_
    exact uX4_write_46 hX _ _ _ _ h
  · have h := os_t h c25
    refine go_aload hC dX4_write_36 0 rfl ?_
    obtain ⟨h29, h⟩ := os_1 h
    obtain ⟨r26, M27, h28, h⟩ := os_c h
    refine go_callV (bytes := cX3_writtenCount) (maxL := 1) (ret := (some .int)) (n := 0) (As := []) (st := []) hE (c_X3_writtenCount K.2.1 h28) (by unfold okY; decide +kernel) rfl h29 rfl (C := RX3) (T := TX3) (N := 16) rfl m_324 m_321 m_322 m_323 m_144 rfl (by simp [Value.category]) (by decide) (by decide) dX4_write_38 ?_
    refine go_eq (pc' := 41) (st' := [.int r26]) (M' := M27) (lv' := [(4, .ref r12), (0, .ref v0), (1, .int v1), (2, .int v2), (3, .int v3)]) ?_ rfl rfl rfl rfl
    refine go_bipush hC dX4_write_41 (v := (10 : Int32)) (by decide +kernel) ?_
    refine go_icmp_ge (t := 50) hC dX4_write_43 (by decide) (fun c30 => ?_) (fun c30 => ?_)
    · have h := os_t h c30
      refine go_iconst hC dX4_write_50 (v := (0 : Int32)) (by decide +kernel) ?_
      refine go_sub (lv' := [(2, .int v2), (3, .int v3), (4, .ref r12)]) [3, 4, 0] rfl ?_
      exact uX4_write_51 hX _ _ _ _ _ h
    · have h := os_f h c30
      refine go_sub (lv' := [(2, .int v2), (3, .int v3), (4, .ref r12)]) [3, 4, 0] rfl ?_
      exact uX4_write_46 hX _ _ _ _ h
theorem cX_X4_write (l : Launch) (hl : l.stackTraces = false) {x9 : Cx} {k9 : Nat} {M M9 : Mm} {c9 : Nat} {v0 : Nat} {v1 : Int32} {v2 : Int32} {v3 : Int32} (h : fX4_write x9 k9 v0 v1 v2 v3 M = some (.inl c9, M9)) : FnX l x9 yX4_write cX4_write 5 (some .int) 8 131 [.ref v0, .int v1, .int v2, .int v3] M c9 M9 :=
  FnX.of hl (by decide +kernel) (Nat.le_of_ble_eq_true rfl) rfl (fun K _ hX => uX4_write_0 hX _ _ _ _ _ h)
/-! X4_change -/
def fX4_change_63 (x9 : Cx) (k9 : Nat) (v2 : Int32) (v3 : Int32) (v4 : Int32) (v5 : Nat) (s0 : Int32) (M : Mm) : Option ((Nat ⊕ Int32) × Mm) :=
  obT (fX4_needState x9 k9 s0 M) (fun r1 M2 => if mK M2 v5 = 4 then ob1 (mP M2 v5 8) (fun b6 => if mK M2 v5 = 4 then ob2 (fX4_cellOf x9 k9 v2 v3 M2) (fun r9 M10 => if mK M10 b6 = 8 ∧ ¬ ((mV M2 v5 7) < 0 ∨ mN M10 b6 ≤ ((mV M2 v5 7)).toNatClampNeg) then if mK (sV M10 b6 ((mV M2 v5 7)).toNatClampNeg r9) v5 = 4 then ob1 (mP (sV M10 b6 ((mV M2 v5 7)).toNatClampNeg r9) v5 9) (fun b15 => if mK (sV M10 b6 ((mV M2 v5 7)).toNatClampNeg r9) v5 = 4 then if mK (sV M10 b6 ((mV M2 v5 7)).toNatClampNeg r9) b15 = 8 ∧ ¬ ((mV (sV M10 b6 ((mV M2 v5 7)).toNatClampNeg r9) v5 7) < 0 ∨ mN (sV M10 b6 ((mV M2 v5 7)).toNatClampNeg r9) b15 ≤ ((mV (sV M10 b6 ((mV M2 v5 7)).toNatClampNeg r9) v5 7)).toNatClampNeg) then lt1 (sV (sV M10 b6 ((mV M2 v5 7)).toNatClampNeg r9) b15 ((mV (sV M10 b6 ((mV M2 v5 7)).toNatClampNeg r9) v5 7)).toNatClampNeg v4) (fun M19 => if mK M19 v5 = 4 then if mK M19 v5 = 4 then if mK (sV M19 v5 7 ((mV M19 v5 7) + (1 : Int32))) v5 = 4 then some (.inr (mV (sV M19 v5 7 ((mV M19 v5 7) + (1 : Int32))) v5 7), (sV M19 v5 7 ((mV M19 v5 7) + (1 : Int32)))) else none else none else none) else none else none) else none else none) else none) else none)
set_option maxRecDepth 100000 in
set_option maxHeartbeats 4000000 in
theorem tX4_change_63 {x9 : Cx} {K : Ct} {k9 : Nat} {M0 M9 : Mm} {r9 : Int32} (hE : Ce x9 K RX4 cX4_change 6 (some .int) 8 131 "change" M0) (v2 : Int32) (v3 : Int32) (v4 : Int32) (v5 : Nat) (s0 : Int32) (M : Mm) (h : fX4_change_63 x9 k9 v2 v3 v4 v5 s0 M = some (.inr r9, M9)) : Go x9 K 6 (Qf x9 K M0 (some (.int r9)) M9) 63 [(2, .int v2), (3, .int v3), (4, .int v4), (5, .ref v5)] [.int s0] M := by
  have hC := hE.1
  have hnm := hE.2.2.2.2.2.2.2.1
  unfold fX4_change_63 at h
  obtain ⟨r1, M2, h3, h⟩ := os_TR h
  refine go_callS (bytes := cX4_needState) (maxL := 1) (ret := none) (n := 1) (As := [.int s0]) (st := []) hE (c_X4_needState K.2.1 h3) (by unfold okY; decide +kernel) rfl m_153 m_151 m_152 m_2 rfl (by simp [Value.category]) (by decide) (by decide) dX4_change_63 ?_
  refine go_eq (pc' := 66) (st' := []) (M' := M2) (lv' := [(2, .int v2), (3, .int v3), (4, .int v4), (5, .ref v5)]) ?_ rfl rfl rfl rfl
  refine go_aload hC dX4_change_66 3 rfl ?_
  obtain ⟨h5, h⟩ := os_1 h
  obtain ⟨b6, h7, h⟩ := os_b h
  refine go_getR 8 hC h5 rfl rfl h7 (C := RX3) (T := TX3) (N := 16) rfl inlX3 (by decide) m_348 (Or.inl rfl) dX4_change_68 ?_
  refine go_aload hC dX4_change_71 3 rfl ?_
  obtain ⟨h8, h⟩ := os_1 h
  refine go_getV 7 hC h8 rfl rfl (C := RX3) (T := TX3) (N := 16) rfl inlX3 (by decide) m_347 (Or.inl rfl) dX4_change_73 ?_
  refine go_iload_n hC dX4_change_76 rfl 0 rfl ?_
  refine go_iload_n hC dX4_change_77 rfl 1 rfl ?_
  obtain ⟨r9, M10, h11, h⟩ := os_c h
  refine go_callS (bytes := cX4_cellOf) (maxL := 2) (ret := (some .int)) (n := 2) (As := [.int v2, .int v3]) (st := [.int (mV M2 v5 7), .ref b6]) hE (c_X4_cellOf K.2.1 h11) (by unfold okY; decide +kernel) rfl m_355 m_353 m_354 m_2 rfl (by simp [Value.category]) (by decide) (by decide) dX4_change_78 ?_
  refine go_eq (pc' := 81) (st' := [.int r9, .int (mV M2 v5 7), .ref b6]) (M' := M10) (lv' := [(2, .int v2), (3, .int v3), (4, .int v4), (5, .ref v5)]) ?_ rfl rfl rfl rfl
  obtain ⟨h13, h⟩ := os_1 h
  refine go_iast hC h13.1 h13.2 dX4_change_81 ?_
  refine go_aload hC dX4_change_82 3 rfl ?_
  obtain ⟨h14, h⟩ := os_1 h
  obtain ⟨b15, h16, h⟩ := os_b h
  refine go_getR 9 hC h14 rfl rfl h16 (C := RX3) (T := TX3) (N := 16) rfl inlX3 (by decide) m_349 (Or.inl rfl) dX4_change_84 ?_
  refine go_aload hC dX4_change_87 3 rfl ?_
  obtain ⟨h17, h⟩ := os_1 h
  refine go_getV 7 hC h17 rfl rfl (C := RX3) (T := TX3) (N := 16) rfl inlX3 (by decide) m_347 (Or.inl rfl) dX4_change_89 ?_
  refine go_iload hC dX4_change_92 2 rfl ?_
  obtain ⟨h18, h⟩ := os_1 h
  refine go_iast hC h18.1 h18.2 dX4_change_94 ?_
  obtain ⟨M19, e20, h⟩ := os_l h
  refine go_eq (pc' := 95) (st' := []) (M' := M19) (lv' := [(2, .int v2), (3, .int v3), (4, .int v4), (5, .ref v5)]) ?_ rfl rfl rfl e20
  refine go_aload hC dX4_change_95 3 rfl ?_
  refine go_dup hC dX4_change_97 rfl ?_
  obtain ⟨h21, h⟩ := os_1 h
  refine go_getV 7 hC h21 rfl rfl (C := RX3) (T := TX3) (N := 16) rfl inlX3 (by decide) m_347 (Or.inl rfl) dX4_change_98 ?_
  refine go_iconst hC dX4_change_101 (v := (1 : Int32)) (by decide +kernel) ?_
  refine go_iadd hC dX4_change_102 ?_
  obtain ⟨h22, h⟩ := os_1 h
  refine go_putV 7 hC h22 rfl rfl (C := RX3) (T := TX3) (N := 16) rfl inlX3 tyX3 tyX3_ok nmX3 (by decide) m_347 (Or.inl rfl) (Or.inl rfl) (tyX3_ok 7 (by decide)) rfl rfl dX4_change_103 ?_
  refine go_aload hC dX4_change_106 3 rfl ?_
  obtain ⟨h23, h⟩ := os_1 h
  refine go_getV 7 hC h23 rfl rfl (C := RX3) (T := TX3) (N := 16) rfl inlX3 (by decide) m_347 (Or.inl rfl) dX4_change_108 ?_
  cases h
  exact go_iret hE dX4_change_111
def fX4_change_27 (x9 : Cx) (k9 : Nat) (v0 : Nat) (v1 : Int32) (v2 : Int32) (v3 : Int32) (v4 : Int32) (s0 : Int32) (M : Mm) : Option ((Nat ⊕ Int32) × Mm) :=
  obT (fX4_needArgument x9 k9 s0 M) (fun r1 M2 => if mK M2 v0 = 5 then ob1 (mP M2 v0 1) (fun b6 => if mK M2 b6 = 7 then ob2 (fJx4a65c_get_915e3 x9 k9 b6 v1 M2) (fun r8 M9 => if mK M9 r8 = 4 then obT (fX4_needGoingOn x9 k9 r8 M9) (fun r13 M14 => if mK M14 r8 = 4 then if (20 : Int32) ≤ (mV M14 r8 7) then fX4_change_63 x9 k9 v2 v3 v4 r8 (0 : Int32) M14 else fX4_change_63 x9 k9 v2 v3 v4 r8 (1 : Int32) M14 else none) else none) else none) else none)
set_option maxRecDepth 100000 in
set_option maxHeartbeats 4000000 in
theorem tX4_change_27 {x9 : Cx} {K : Ct} {k9 : Nat} {M0 M9 : Mm} {r9 : Int32} (hE : Ce x9 K RX4 cX4_change 6 (some .int) 8 131 "change" M0) (v0 : Nat) (v1 : Int32) (v2 : Int32) (v3 : Int32) (v4 : Int32) (s0 : Int32) (M : Mm) (h : fX4_change_27 x9 k9 v0 v1 v2 v3 v4 s0 M = some (.inr r9, M9)) : Go x9 K 6 (Qf x9 K M0 (some (.int r9)) M9) 27 [(0, .ref v0), (1, .int v1), (2, .int v2), (3, .int v3), (4, .int v4)] [.int s0] M := by
  have hC := hE.1
  have hnm := hE.2.2.2.2.2.2.2.1
  unfold fX4_change_27 at h
  obtain ⟨r1, M2, h3, h⟩ := os_TR h
  refine go_callS (bytes := cX4_needArgument) (maxL := 1) (ret := none) (n := 1) (As := [.int s0]) (st := []) hE (c_X4_needArgument K.2.1 h3) (by unfold okY; decide +kernel) rfl m_117 m_115 m_116 m_2 rfl (by simp [Value.category]) (by decide) (by decide) dX4_change_27 ?_
  refine go_eq (pc' := 30) (st' := []) (M' := M2) (lv' := [(0, .ref v0), (1, .int v1), (2, .int v2), (3, .int v3), (4, .int v4)]) ?_ rfl rfl rfl rfl
  refine go_aload_n hC dX4_change_30 rfl 0 rfl ?_
  obtain ⟨h5, h⟩ := os_1 h
  obtain ⟨b6, h7, h⟩ := os_b h
  refine go_getR 1 hC h5 rfl rfl h7 (C := RX4) (T := TX4) (N := 7) rfl inlX4 (by decide) m_20 (Or.inl rfl) dX4_change_31 ?_
  refine go_iload_n hC dX4_change_34 rfl 1 rfl ?_
  obtain ⟨h11, h⟩ := os_1 h
  obtain ⟨r8, M9, h10, h⟩ := os_c h
  refine go_callV (bytes := cJx4a65c_get_915e3) (maxL := 2) (ret := (some (.object "java/lang/Object"))) (n := 1) (As := [.int v1]) (st := []) hE (c_Jx4a65c_get_915e3 K.2.1 h10) (by unfold okY; decide +kernel) rfl h11 rfl (C := RJx4a65c) (T := TJx4a65c) (N := 3) rfl m_220 m_217 m_218 m_219 m_19 rfl (by simp [Value.category]) (by decide) (by decide) dX4_change_35 ?_
  refine go_eq (pc' := 38) (st' := [.ref r8]) (M' := M9) (lv' := [(0, .ref v0), (1, .int v1), (2, .int v2), (3, .int v3), (4, .int v4)]) ?_ rfl rfl rfl rfl
  obtain ⟨h12, h⟩ := os_1 h
  refine go_cast hC h12 rfl (C := RX3) (T := TX3) (N := 16) rfl m_145 dX4_change_38 ?_
  refine go_astore (lv' := [(5, .ref r8), (0, .ref v0), (1, .int v1), (2, .int v2), (3, .int v3), (4, .int v4)]) hC dX4_change_41 (by decide) rfl ?_
  refine go_aload hC dX4_change_43 0 rfl ?_
  obtain ⟨r13, M14, h15, h⟩ := os_TR h
  refine go_callS (bytes := cX4_needGoingOn) (maxL := 1) (ret := none) (n := 1) (As := [.ref r8]) (st := []) hE (c_X4_needGoingOn K.2.1 h15) (by unfold okY; decide +kernel) rfl m_276 m_274 m_275 m_2 rfl (by simp [Value.category]) (by decide) (by decide) dX4_change_45 ?_
  refine go_eq (pc' := 48) (st' := []) (M' := M14) (lv' := [(5, .ref r8), (0, .ref v0), (1, .int v1), (2, .int v2), (3, .int v3), (4, .int v4)]) ?_ rfl rfl rfl rfl
  refine go_aload hC dX4_change_48 0 rfl ?_
  obtain ⟨h17, h⟩ := os_1 h
  refine go_getV 7 hC h17 rfl rfl (C := RX3) (T := TX3) (N := 16) rfl inlX3 (by decide) m_347 (Or.inl rfl) dX4_change_50 ?_
  refine go_bipush hC dX4_change_53 (v := (20 : Int32)) (by decide +kernel) ?_
  refine go_icmp_ge (t := 62) hC dX4_change_55 (by decide) (fun c18 => ?_) (fun c18 => ?_)
  · have h := os_t h c18
    refine go_iconst hC dX4_change_62 (v := (0 : Int32)) (by decide +kernel) ?_
    refine go_sub (lv' := [(2, .int v2), (3, .int v3), (4, .int v4), (5, .ref r8)]) [3, 4, 5, 0] rfl ?_
    exact tX4_change_63 hE _ _ _ _ _ _ h
  · have h := os_f h c18
    refine go_iconst hC dX4_change_58 (v := (1 : Int32)) (by decide +kernel) ?_
    refine go_goto (t := 63) hC dX4_change_59 (by decide) ?_
    refine go_sub (lv' := [(2, .int v2), (3, .int v3), (4, .int v4), (5, .ref r8)]) [3, 4, 5, 0] rfl ?_
    exact tX4_change_63 hE _ _ _ _ _ _ h
def fX4_change_22 (x9 : Cx) (k9 : Nat) (v0 : Nat) (v1 : Int32) (v2 : Int32) (v3 : Int32) (v4 : Int32) (M : Mm) : Option ((Nat ⊕ Int32) × Mm) :=
  fX4_change_27 x9 k9 v0 v1 v2 v3 v4 (1 : Int32) M
set_option maxRecDepth 100000 in
set_option maxHeartbeats 4000000 in
theorem tX4_change_22 {x9 : Cx} {K : Ct} {k9 : Nat} {M0 M9 : Mm} {r9 : Int32} (hE : Ce x9 K RX4 cX4_change 6 (some .int) 8 131 "change" M0) (v0 : Nat) (v1 : Int32) (v2 : Int32) (v3 : Int32) (v4 : Int32) (M : Mm) (h : fX4_change_22 x9 k9 v0 v1 v2 v3 v4 M = some (.inr r9, M9)) : Go x9 K 6 (Qf x9 K M0 (some (.int r9)) M9) 22 [(0, .ref v0), (1, .int v1), (2, .int v2), (3, .int v3), (4, .int v4)] [] M := by
  have hC := hE.1
  have hnm := hE.2.2.2.2.2.2.2.1
  unfold fX4_change_22 at h
  refine go_iconst hC dX4_change_22 (v := (1 : Int32)) (by decide +kernel) ?_
  refine go_goto (t := 27) hC dX4_change_23 (by decide) ?_
  exact tX4_change_27 hE _ _ _ _ _ _ _ h
def fX4_change (x9 : Cx) (k9 : Nat) (v0 : Nat) (v1 : Int32) (v2 : Int32) (v3 : Int32) (v4 : Int32) (M : Mm) : Option ((Nat ⊕ Int32) × Mm) :=
  if mK M v0 = 5 then obT (fX4_needTransaction x9 k9 v0 v1 M) (fun r1 M2 => obT (fX4_needElement x9 k9 v2 v3 M2) (fun r5 M6 => if v4 = (1 : Int32) then fX4_change_22 x9 k9 v0 v1 v2 v3 v4 M6 else if v4 = (-1 : Int32) then fX4_change_22 x9 k9 v0 v1 v2 v3 v4 M6 else fX4_change_27 x9 k9 v0 v1 v2 v3 v4 (0 : Int32) M6)) else none
set_option maxRecDepth 100000 in
set_option maxHeartbeats 4000000 in
theorem tX4_change_0 {x9 : Cx} {K : Ct} {k9 : Nat} {M0 M9 : Mm} {r9 : Int32} (hE : Ce x9 K RX4 cX4_change 6 (some .int) 8 131 "change" M0) (v0 : Nat) (v1 : Int32) (v2 : Int32) (v3 : Int32) (v4 : Int32) (M : Mm) (h : fX4_change x9 k9 v0 v1 v2 v3 v4 M = some (.inr r9, M9)) : Go x9 K 6 (Qf x9 K M0 (some (.int r9)) M9) 0 [(0, .ref v0), (1, .int v1), (2, .int v2), (3, .int v3), (4, .int v4)] [] M := by
  have hC := hE.1
  have hnm := hE.2.2.2.2.2.2.2.1
  unfold fX4_change at h
  refine go_aload_n hC dX4_change_0 rfl 0 rfl ?_
  refine go_iload_n hC dX4_change_1 rfl 1 rfl ?_
  obtain ⟨h4, h⟩ := os_1 h
  obtain ⟨r1, M2, h3, h⟩ := os_TR h
  refine go_callV (bytes := cX4_needTransaction) (maxL := 2) (ret := none) (n := 1) (As := [.int v1]) (st := []) hE (c_X4_needTransaction K.2.1 h3) (by unfold okY; decide +kernel) rfl h4 rfl (C := RX4) (T := TX4) (N := 7) rfl m_270 m_267 m_268 m_269 m_2 rfl (by simp [Value.category]) (by decide) (by decide) dX4_change_2 ?_
  refine go_eq (pc' := 5) (st' := []) (M' := M2) (lv' := [(0, .ref v0), (1, .int v1), (2, .int v2), (3, .int v3), (4, .int v4)]) ?_ rfl rfl rfl rfl
  refine go_iload_n hC dX4_change_5 rfl 2 rfl ?_
  refine go_iload_n hC dX4_change_6 rfl 3 rfl ?_
  obtain ⟨r5, M6, h7, h⟩ := os_TR h
  refine go_callS (bytes := cX4_needElement) (maxL := 2) (ret := none) (n := 2) (As := [.int v2, .int v3]) (st := []) hE (c_X4_needElement K.2.1 h7) (by unfold okY; decide +kernel) rfl m_352 m_350 m_351 m_2 rfl (by simp [Value.category]) (by decide) (by decide) dX4_change_7 ?_
  refine go_eq (pc' := 10) (st' := []) (M' := M6) (lv' := [(0, .ref v0), (1, .int v1), (2, .int v2), (3, .int v3), (4, .int v4)]) ?_ rfl rfl rfl rfl
  refine go_iload hC dX4_change_10 4 rfl ?_
  refine go_iconst hC dX4_change_12 (v := (1 : Int32)) (by decide +kernel) ?_
  refine go_icmp_eq (t := 22) hC dX4_change_13 (by decide) (fun c9 => ?_) (fun c9 => ?_)
  · have h := os_t h c9
    exact tX4_change_22 hE _ _ _ _ _ _ h
  · have h := os_f h c9
    refine go_iload hC dX4_change_16 4 rfl ?_
    refine go_iconst hC dX4_change_18 (v := (-1 : Int32)) (by decide +kernel) ?_
    refine go_icmp_ne (t := 26) hC dX4_change_19 (by decide) (fun c10 => ?_) (fun c10 => ?_)
    · have h := os_f h c10
      refine go_iconst hC dX4_change_26 (v := (0 : Int32)) (by decide +kernel) ?_
      exact tX4_change_27 hE _ _ _ _ _ _ _ h
    · have h := os_t h c10
      exact tX4_change_22 hE _ _ _ _ _ _ h
theorem c_X4_change (l : Launch) {x9 : Cx} {k9 : Nat} {M M9 : Mm} {r9 : Int32} {v0 : Nat} {v1 : Int32} {v2 : Int32} {v3 : Int32} {v4 : Int32} (h : fX4_change x9 k9 v0 v1 v2 v3 v4 M = some (.inr r9, M9)) : Fn l x9 yX4_change cX4_change 6 (some .int) 8 131 [.ref v0, .int v1, .int v2, .int v3, .int v4] M (some (.int r9)) M9 :=
  Fn.of (by decide +kernel) (Nat.le_of_ble_eq_true rfl) rfl (fun K _ hE => tX4_change_0 hE _ _ _ _ _ _ h)
set_option maxRecDepth 100000 in
set_option maxHeartbeats 4000000 in
theorem uX4_change_63 {x9 : Cx} {K : Ct} {k9 : Nat} {M0 M9 : Mm} {c9 : Nat} (hX : CeX x9 K RX4 cX4_change 6 (some .int) 8 131 "change" M0) (v2 : Int32) (v3 : Int32) (v4 : Int32) (v5 : Nat) (s0 : Int32) (M : Mm) (h : fX4_change_63 x9 k9 v2 v3 v4 v5 s0 M = some (.inl c9, M9)) : Go x9 K 6 (QX x9 K M0 c9 M9) 63 [(2, .int v2), (3, .int v3), (4, .int v4), (5, .ref v5)] [.int s0] M := by
  have hE := hX.1
  have hC := hE.1
  unfold fX4_change_63 at h
  rcases os_TX h with h3 | ⟨r1, M2, h3, h⟩
  · exact go_callSX (bytes := cX4_needState) (maxL := 1) (ret := none) (n := 1) (As := [.int s0]) (st := []) hX (cX_X4_needState K.2.1 hX.2.2 h3) (by unfold okY; decide +kernel) rfl m_153 m_151 m_152 m_2 rfl (by simp [Value.category]) (by decide) (by decide) dX4_change_63
  refine go_callS (bytes := cX4_needState) (maxL := 1) (ret := none) (n := 1) (As := [.int s0]) (st := []) hE (c_X4_needState K.2.1 h3) (by unfold okY; decide +kernel) rfl m_153 m_151 m_152 m_2 rfl (by simp [Value.category]) (by decide) (by decide) dX4_change_63 ?_
  refine go_eq (pc' := 66) (st' := []) (M' := M2) (lv' := [(2, .int v2), (3, .int v3), (4, .int v4), (5, .ref v5)]) ?_ rfl rfl rfl rfl
  refine go_aload hC dX4_change_66 3 rfl ?_
  obtain ⟨h5, h⟩ := os_1 h
  obtain ⟨b6, h7, h⟩ := os_b h
  refine go_getR 8 hC h5 rfl rfl h7 (C := RX3) (T := TX3) (N := 16) rfl inlX3 (by decide) m_348 (Or.inl rfl) dX4_change_68 ?_
  refine go_aload hC dX4_change_71 3 rfl ?_
  obtain ⟨h8, h⟩ := os_1 h
  refine go_getV 7 hC h8 rfl rfl (C := RX3) (T := TX3) (N := 16) rfl inlX3 (by decide) m_347 (Or.inl rfl) dX4_change_73 ?_
  refine go_iload_n hC dX4_change_76 rfl 0 rfl ?_
  refine go_iload_n hC dX4_change_77 rfl 1 rfl ?_
  obtain ⟨r9, M10, h11, h⟩ := os_c h
  refine go_callS (bytes := cX4_cellOf) (maxL := 2) (ret := (some .int)) (n := 2) (As := [.int v2, .int v3]) (st := [.int (mV M2 v5 7), .ref b6]) hE (c_X4_cellOf K.2.1 h11) (by unfold okY; decide +kernel) rfl m_355 m_353 m_354 m_2 rfl (by simp [Value.category]) (by decide) (by decide) dX4_change_78 ?_
  refine go_eq (pc' := 81) (st' := [.int r9, .int (mV M2 v5 7), .ref b6]) (M' := M10) (lv' := [(2, .int v2), (3, .int v3), (4, .int v4), (5, .ref v5)]) ?_ rfl rfl rfl rfl
  obtain ⟨h13, h⟩ := os_1 h
  refine go_iast hC h13.1 h13.2 dX4_change_81 ?_
  refine go_aload hC dX4_change_82 3 rfl ?_
  obtain ⟨h14, h⟩ := os_1 h
  obtain ⟨b15, h16, h⟩ := os_b h
  refine go_getR 9 hC h14 rfl rfl h16 (C := RX3) (T := TX3) (N := 16) rfl inlX3 (by decide) m_349 (Or.inl rfl) dX4_change_84 ?_
  refine go_aload hC dX4_change_87 3 rfl ?_
  obtain ⟨h17, h⟩ := os_1 h
  refine go_getV 7 hC h17 rfl rfl (C := RX3) (T := TX3) (N := 16) rfl inlX3 (by decide) m_347 (Or.inl rfl) dX4_change_89 ?_
  refine go_iload hC dX4_change_92 2 rfl ?_
  obtain ⟨h18, h⟩ := os_1 h
  refine go_iast hC h18.1 h18.2 dX4_change_94 ?_
  obtain ⟨M19, e20, h⟩ := os_l h
  refine go_eq (pc' := 95) (st' := []) (M' := M19) (lv' := [(2, .int v2), (3, .int v3), (4, .int v4), (5, .ref v5)]) ?_ rfl rfl rfl e20
  refine go_aload hC dX4_change_95 3 rfl ?_
  refine go_dup hC dX4_change_97 rfl ?_
  obtain ⟨h21, h⟩ := os_1 h
  refine go_getV 7 hC h21 rfl rfl (C := RX3) (T := TX3) (N := 16) rfl inlX3 (by decide) m_347 (Or.inl rfl) dX4_change_98 ?_
  refine go_iconst hC dX4_change_101 (v := (1 : Int32)) (by decide +kernel) ?_
  refine go_iadd hC dX4_change_102 ?_
  obtain ⟨h22, h⟩ := os_1 h
  refine go_putV 7 hC h22 rfl rfl (C := RX3) (T := TX3) (N := 16) rfl inlX3 tyX3 tyX3_ok nmX3 (by decide) m_347 (Or.inl rfl) (Or.inl rfl) (tyX3_ok 7 (by decide)) rfl rfl dX4_change_103 ?_
  refine go_aload hC dX4_change_106 3 rfl ?_
  obtain ⟨h23, h⟩ := os_1 h
  refine go_getV 7 hC h23 rfl rfl (C := RX3) (T := TX3) (N := 16) rfl inlX3 (by decide) m_347 (Or.inl rfl) dX4_change_108 ?_
  cases h
set_option maxRecDepth 100000 in
set_option maxHeartbeats 4000000 in
theorem uX4_change_27 {x9 : Cx} {K : Ct} {k9 : Nat} {M0 M9 : Mm} {c9 : Nat} (hX : CeX x9 K RX4 cX4_change 6 (some .int) 8 131 "change" M0) (v0 : Nat) (v1 : Int32) (v2 : Int32) (v3 : Int32) (v4 : Int32) (s0 : Int32) (M : Mm) (h : fX4_change_27 x9 k9 v0 v1 v2 v3 v4 s0 M = some (.inl c9, M9)) : Go x9 K 6 (QX x9 K M0 c9 M9) 27 [(0, .ref v0), (1, .int v1), (2, .int v2), (3, .int v3), (4, .int v4)] [.int s0] M := by
  have hE := hX.1
  have hC := hE.1
  unfold fX4_change_27 at h
  rcases os_TX h with h3 | ⟨r1, M2, h3, h⟩
  · exact go_callSX (bytes := cX4_needArgument) (maxL := 1) (ret := none) (n := 1) (As := [.int s0]) (st := []) hX (cX_X4_needArgument K.2.1 hX.2.2 h3) (by unfold okY; decide +kernel) rfl m_117 m_115 m_116 m_2 rfl (by simp [Value.category]) (by decide) (by decide) dX4_change_27
  refine go_callS (bytes := cX4_needArgument) (maxL := 1) (ret := none) (n := 1) (As := [.int s0]) (st := []) hE (c_X4_needArgument K.2.1 h3) (by unfold okY; decide +kernel) rfl m_117 m_115 m_116 m_2 rfl (by simp [Value.category]) (by decide) (by decide) dX4_change_27 ?_
  refine go_eq (pc' := 30) (st' := []) (M' := M2) (lv' := [(0, .ref v0), (1, .int v1), (2, .int v2), (3, .int v3), (4, .int v4)]) ?_ rfl rfl rfl rfl
  refine go_aload_n hC dX4_change_30 rfl 0 rfl ?_
  obtain ⟨h5, h⟩ := os_1 h
  obtain ⟨b6, h7, h⟩ := os_b h
  refine go_getR 1 hC h5 rfl rfl h7 (C := RX4) (T := TX4) (N := 7) rfl inlX4 (by decide) m_20 (Or.inl rfl) dX4_change_31 ?_
  refine go_iload_n hC dX4_change_34 rfl 1 rfl ?_
  obtain ⟨h11, h⟩ := os_1 h
  obtain ⟨r8, M9, h10, h⟩ := os_c h
  refine go_callV (bytes := cJx4a65c_get_915e3) (maxL := 2) (ret := (some (.object "java/lang/Object"))) (n := 1) (As := [.int v1]) (st := []) hE (c_Jx4a65c_get_915e3 K.2.1 h10) (by unfold okY; decide +kernel) rfl h11 rfl (C := RJx4a65c) (T := TJx4a65c) (N := 3) rfl m_220 m_217 m_218 m_219 m_19 rfl (by simp [Value.category]) (by decide) (by decide) dX4_change_35 ?_
  refine go_eq (pc' := 38) (st' := [.ref r8]) (M' := M9) (lv' := [(0, .ref v0), (1, .int v1), (2, .int v2), (3, .int v3), (4, .int v4)]) ?_ rfl rfl rfl rfl
  obtain ⟨h12, h⟩ := os_1 h
  refine go_cast hC h12 rfl (C := RX3) (T := TX3) (N := 16) rfl m_145 dX4_change_38 ?_
  refine go_astore (lv' := [(5, .ref r8), (0, .ref v0), (1, .int v1), (2, .int v2), (3, .int v3), (4, .int v4)]) hC dX4_change_41 (by decide) rfl ?_
  refine go_aload hC dX4_change_43 0 rfl ?_
  rcases os_TX h with h15 | ⟨r13, M14, h15, h⟩
  · exact go_callSX (bytes := cX4_needGoingOn) (maxL := 1) (ret := none) (n := 1) (As := [.ref r8]) (st := []) hX (cX_X4_needGoingOn K.2.1 hX.2.2 h15) (by unfold okY; decide +kernel) rfl m_276 m_274 m_275 m_2 rfl (by simp [Value.category]) (by decide) (by decide) dX4_change_45
  refine go_callS (bytes := cX4_needGoingOn) (maxL := 1) (ret := none) (n := 1) (As := [.ref r8]) (st := []) hE (c_X4_needGoingOn K.2.1 h15) (by unfold okY; decide +kernel) rfl m_276 m_274 m_275 m_2 rfl (by simp [Value.category]) (by decide) (by decide) dX4_change_45 ?_
  refine go_eq (pc' := 48) (st' := []) (M' := M14) (lv' := [(5, .ref r8), (0, .ref v0), (1, .int v1), (2, .int v2), (3, .int v3), (4, .int v4)]) ?_ rfl rfl rfl rfl
  refine go_aload hC dX4_change_48 0 rfl ?_
  obtain ⟨h17, h⟩ := os_1 h
  refine go_getV 7 hC h17 rfl rfl (C := RX3) (T := TX3) (N := 16) rfl inlX3 (by decide) m_347 (Or.inl rfl) dX4_change_50 ?_
  refine go_bipush hC dX4_change_53 (v := (20 : Int32)) (by decide +kernel) ?_
  refine go_icmp_ge (t := 62) hC dX4_change_55 (by decide) (fun c18 => ?_) (fun c18 => ?_)
  · have h := os_t h c18
    refine go_iconst hC dX4_change_62 (v := (0 : Int32)) (by decide +kernel) ?_
    refine go_sub (lv' := [(2, .int v2), (3, .int v3), (4, .int v4), (5, .ref r8)]) [3, 4, 5, 0] rfl ?_
    exact uX4_change_63 hX _ _ _ _ _ _ h
  · have h := os_f h c18
    refine go_iconst hC dX4_change_58 (v := (1 : Int32)) (by decide +kernel) ?_
    refine go_goto (t := 63) hC dX4_change_59 (by decide) ?_
    refine go_sub (lv' := [(2, .int v2), (3, .int v3), (4, .int v4), (5, .ref r8)]) [3, 4, 5, 0] rfl ?_
    exact uX4_change_63 hX _ _ _ _ _ _ h
set_option maxRecDepth 100000 in
set_option maxHeartbeats 4000000 in
theorem uX4_change_22 {x9 : Cx} {K : Ct} {k9 : Nat} {M0 M9 : Mm} {c9 : Nat} (hX : CeX x9 K RX4 cX4_change 6 (some .int) 8 131 "change" M0) (v0 : Nat) (v1 : Int32) (v2 : Int32) (v3 : Int32) (v4 : Int32) (M : Mm) (h : fX4_change_22 x9 k9 v0 v1 v2 v3 v4 M = some (.inl c9, M9)) : Go x9 K 6 (QX x9 K M0 c9 M9) 22 [(0, .ref v0), (1, .int v1), (2, .int v2), (3, .int v3), (4, .int v4)] [] M := by
  have hE := hX.1
  have hC := hE.1
  unfold fX4_change_22 at h
  refine go_iconst hC dX4_change_22 (v := (1 : Int32)) (by decide +kernel) ?_
  refine go_goto (t := 27) hC dX4_change_23 (by decide) ?_
  exact uX4_change_27 hX _ _ _ _ _ _ _ h
set_option maxRecDepth 100000 in
set_option maxHeartbeats 4000000 in
theorem uX4_change_0 {x9 : Cx} {K : Ct} {k9 : Nat} {M0 M9 : Mm} {c9 : Nat} (hX : CeX x9 K RX4 cX4_change 6 (some .int) 8 131 "change" M0) (v0 : Nat) (v1 : Int32) (v2 : Int32) (v3 : Int32) (v4 : Int32) (M : Mm) (h : fX4_change x9 k9 v0 v1 v2 v3 v4 M = some (.inl c9, M9)) : Go x9 K 6 (QX x9 K M0 c9 M9) 0 [(0, .ref v0), (1, .int v1), (2, .int v2), (3, .int v3), (4, .int v4)] [] M := by
  have hE := hX.1
  have hC := hE.1
  unfold fX4_change at h
  refine go_aload_n hC dX4_change_0 rfl 0 rfl ?_
  refine go_iload_n hC dX4_change_1 rfl 1 rfl ?_
  obtain ⟨h4, h⟩ := os_1 h
  rcases os_TX h with h3 | ⟨r1, M2, h3, h⟩
  · exact go_callVX (bytes := cX4_needTransaction) (maxL := 2) (ret := none) (n := 1) (As := [.int v1]) (st := []) hX (cX_X4_needTransaction K.2.1 hX.2.2 h3) (by unfold okY; decide +kernel) rfl h4 rfl (C := RX4) (T := TX4) (N := 7) rfl m_270 m_267 m_268 m_269 m_2 rfl (by simp [Value.category]) (by decide) (by decide) dX4_change_2
  refine go_callV (bytes := cX4_needTransaction) (maxL := 2) (ret := none) (n := 1) (As := [.int v1]) (st := []) hE (c_X4_needTransaction K.2.1 h3) (by unfold okY; decide +kernel) rfl h4 rfl (C := RX4) (T := TX4) (N := 7) rfl m_270 m_267 m_268 m_269 m_2 rfl (by simp [Value.category]) (by decide) (by decide) dX4_change_2 ?_
  refine go_eq (pc' := 5) (st' := []) (M' := M2) (lv' := [(0, .ref v0), (1, .int v1), (2, .int v2), (3, .int v3), (4, .int v4)]) ?_ rfl rfl rfl rfl
  refine go_iload_n hC dX4_change_5 rfl 2 rfl ?_
  refine go_iload_n hC dX4_change_6 rfl 3 rfl ?_
  rcases os_TX h with h7 | ⟨r5, M6, h7, h⟩
  · exact go_callSX (bytes := cX4_needElement) (maxL := 2) (ret := none) (n := 2) (As := [.int v2, .int v3]) (st := []) hX (cX_X4_needElement K.2.1 hX.2.2 h7) (by unfold okY; decide +kernel) rfl m_352 m_350 m_351 m_2 rfl (by simp [Value.category]) (by decide) (by decide) dX4_change_7
  refine go_callS (bytes := cX4_needElement) (maxL := 2) (ret := none) (n := 2) (As := [.int v2, .int v3]) (st := []) hE (c_X4_needElement K.2.1 h7) (by unfold okY; decide +kernel) rfl m_352 m_350 m_351 m_2 rfl (by simp [Value.category]) (by decide) (by decide) dX4_change_7 ?_
  refine go_eq (pc' := 10) (st' := []) (M' := M6) (lv' := [(0, .ref v0), (1, .int v1), (2, .int v2), (3, .int v3), (4, .int v4)]) ?_ rfl rfl rfl rfl
  refine go_iload hC dX4_change_10 4 rfl ?_
  refine go_iconst hC dX4_change_12 (v := (1 : Int32)) (by decide +kernel) ?_
  refine go_icmp_eq (t := 22) hC dX4_change_13 (by decide) (fun c9 => ?_) (fun c9 => ?_)
  · have h := os_t h c9
    exact uX4_change_22 hX _ _ _ _ _ _ h
  · have h := os_f h c9
    refine go_iload hC dX4_change_16 4 rfl ?_
    refine go_iconst hC dX4_change_18 (v := (-1 : Int32)) (by decide +kernel) ?_
    refine go_icmp_ne (t := 26) hC dX4_change_19 (by decide) (fun c10 => ?_) (fun c10 => ?_)
    · have h := os_f h c10
      refine go_iconst hC dX4_change_26 (v := (0 : Int32)) (by decide +kernel) ?_
      exact uX4_change_27 hX _ _ _ _ _ _ _ h
    · have h := os_t h c10
      exact uX4_change_22 hX _ _ _ _ _ _ h
theorem cX_X4_change (l : Launch) (hl : l.stackTraces = false) {x9 : Cx} {k9 : Nat} {M M9 : Mm} {c9 : Nat} {v0 : Nat} {v1 : Int32} {v2 : Int32} {v3 : Int32} {v4 : Int32} (h : fX4_change x9 k9 v0 v1 v2 v3 v4 M = some (.inl c9, M9)) : FnX l x9 yX4_change cX4_change 6 (some .int) 8 131 [.ref v0, .int v1, .int v2, .int v3, .int v4] M c9 M9 :=
  FnX.of hl (by decide +kernel) (Nat.le_of_ble_eq_true rfl) rfl (fun K _ hX => uX4_change_0 hX _ _ _ _ _ _ h)
/-! X4_count -/
def fX4_count (x9 : Cx) (k9 : Nat) (v0 : Nat) (v1 : Int32) (v2 : Int32) (v3 : Int32) (M : Mm) : Option ((Nat ⊕ Int32) × Mm) :=
  if mK M v0 = 5 then obT (fX4_needTransaction x9 k9 v0 v1 M) (fun r1 M2 => obT (fX4_needElement x9 k9 v2 v3 M2) (fun r5 M6 => if mK M6 v0 = 5 then ob1 (mP M6 v0 1) (fun b10 => if mK M6 b10 = 7 then ob2 (fJx4a65c_get_915e3 x9 k9 b10 v1 M6) (fun r12 M13 => if mK M13 r12 = 4 then obT (fX4_needGoingOn x9 k9 r12 M13) (fun r17 M18 => ob2 (fX4_cellOf x9 k9 v2 v3 M18) (fun r21 M22 => if mK M22 r12 = 4 then ob2 (fX3_changeOf x9 k9 r12 r21 M22) (fun r25 M26 => if mK M26 v0 = 5 then ob2 (fX4_changeSeen x9 k9 v0 r12 r21 M26) (fun r29 M30 => some (.inr (r25 + r29), M30)) else none) else none)) else none) else none) else none)) else none
set_option maxRecDepth 100000 in
set_option maxHeartbeats 4000000 in
theorem tX4_count_0 {x9 : Cx} {K : Ct} {k9 : Nat} {M0 M9 : Mm} {r9 : Int32} (hE : Ce x9 K RX4 cX4_count 6 (some .int) 8 131 "count" M0) (v0 : Nat) (v1 : Int32) (v2 : Int32) (v3 : Int32) (M : Mm) (h : fX4_count x9 k9 v0 v1 v2 v3 M = some (.inr r9, M9)) : Go x9 K 6 (Qf x9 K M0 (some (.int r9)) M9) 0 [(0, .ref v0), (1, .int v1), (2, .int v2), (3, .int v3)] [] M := by
  have hC := hE.1
  have hnm := hE.2.2.2.2.2.2.2.1
  unfold fX4_count at h
  refine go_aload_n hC dX4_count_0 rfl 0 rfl ?_
  refine go_iload_n hC dX4_count_1 rfl 1 rfl ?_
  obtain ⟨h4, h⟩ := os_1 h
  obtain ⟨r1, M2, h3, h⟩ := os_TR h
  refine go_callV (bytes := cX4_needTransaction) (maxL := 2) (ret := none) (n := 1) (As := [.int v1]) (st := []) hE (c_X4_needTransaction K.2.1 h3) (by unfold okY; decide +kernel) rfl h4 rfl (C := RX4) (T := TX4) (N := 7) rfl m_270 m_267 m_268 m_269 m_2 rfl (by simp [Value.category]) (by decide) (by decide) dX4_count_2 ?_
  refine go_eq (pc' := 5) (st' := []) (M' := M2) (lv' := [(0, .ref v0), (1, .int v1), (2, .int v2), (3, .int v3)]) ?_ rfl rfl rfl rfl
  refine go_iload_n hC dX4_count_5 rfl 2 rfl ?_
  refine go_iload_n hC dX4_count_6 rfl 3 rfl ?_
  obtain ⟨r5, M6, h7, h⟩ := os_TR h
  refine go_callS (bytes := cX4_needElement) (maxL := 2) (ret := none) (n := 2) (As := [.int v2, .int v3]) (st := []) hE (c_X4_needElement K.2.1 h7) (by unfold okY; decide +kernel) rfl m_352 m_350 m_351 m_2 rfl (by simp [Value.category]) (by decide) (by decide) dX4_count_7 ?_
  refine go_eq (pc' := 10) (st' := []) (M' := M6) (lv' := [(0, .ref v0), (1, .int v1), (2, .int v2), (3, .int v3)]) ?_ rfl rfl rfl rfl
  refine go_aload_n hC dX4_count_10 rfl 0 rfl ?_
  obtain ⟨h9, h⟩ := os_1 h
  obtain ⟨b10, h11, h⟩ := os_b h
  refine go_getR 1 hC h9 rfl rfl h11 (C := RX4) (T := TX4) (N := 7) rfl inlX4 (by decide) m_20 (Or.inl rfl) dX4_count_11 ?_
  refine go_iload_n hC dX4_count_14 rfl 1 rfl ?_
  obtain ⟨h15, h⟩ := os_1 h
  obtain ⟨r12, M13, h14, h⟩ := os_c h
  refine go_callV (bytes := cJx4a65c_get_915e3) (maxL := 2) (ret := (some (.object "java/lang/Object"))) (n := 1) (As := [.int v1]) (st := []) hE (c_Jx4a65c_get_915e3 K.2.1 h14) (by unfold okY; decide +kernel) rfl h15 rfl (C := RJx4a65c) (T := TJx4a65c) (N := 3) rfl m_220 m_217 m_218 m_219 m_19 rfl (by simp [Value.category]) (by decide) (by decide) dX4_count_15 ?_
  refine go_eq (pc' := 18) (st' := [.ref r12]) (M' := M13) (lv' := [(0, .ref v0), (1, .int v1), (2, .int v2), (3, .int v3)]) ?_ rfl rfl rfl rfl
  obtain ⟨h16, h⟩ := os_1 h
  refine go_cast hC h16 rfl (C := RX3) (T := TX3) (N := 16) rfl m_145 dX4_count_18 ?_
  refine go_astore (lv' := [(4, .ref r12), (0, .ref v0), (1, .int v1), (2, .int v2), (3, .int v3)]) hC dX4_count_21 (by decide) rfl ?_
  refine go_aload hC dX4_count_23 0 rfl ?_
  obtain ⟨r17, M18, h19, h⟩ := os_TR h
  refine go_callS (bytes := cX4_needGoingOn) (maxL := 1) (ret := none) (n := 1) (As := [.ref r12]) (st := []) hE (c_X4_needGoingOn K.2.1 h19) (by unfold okY; decide +kernel) rfl m_276 m_274 m_275 m_2 rfl (by simp [Value.category]) (by decide) (by decide) dX4_count_25 ?_
  refine go_eq (pc' := 28) (st' := []) (M' := M18) (lv' := [(4, .ref r12), (0, .ref v0), (1, .int v1), (2, .int v2), (3, .int v3)]) ?_ rfl rfl rfl rfl
  refine go_iload_n hC dX4_count_28 rfl 3 rfl ?_
  refine go_iload_n hC dX4_count_29 rfl 4 rfl ?_
  obtain ⟨r21, M22, h23, h⟩ := os_c h
  refine go_callS (bytes := cX4_cellOf) (maxL := 2) (ret := (some .int)) (n := 2) (As := [.int v2, .int v3]) (st := []) hE (c_X4_cellOf K.2.1 h23) (by unfold okY; decide +kernel) rfl m_355 m_353 m_354 m_2 rfl (by simp [Value.category]) (by decide) (by decide) dX4_count_30 ?_
  refine go_eq (pc' := 33) (st' := [.int r21]) (M' := M22) (lv' := [(4, .ref r12), (0, .ref v0), (1, .int v1), (2, .int v2), (3, .int v3)]) ?_ rfl rfl rfl rfl
  refine go_istore (lv' := [(5, .int r21), (4, .ref r12), (0, .ref v0), (1, .int v1), (2, .int v2), (3, .int v3)]) hC dX4_count_33 (by decide) rfl ?_
  refine go_aload hC dX4_count_35 1 rfl ?_
  refine go_iload hC dX4_count_37 0 rfl ?_
  obtain ⟨h28, h⟩ := os_1 h
  obtain ⟨r25, M26, h27, h⟩ := os_c h
  refine go_callV (bytes := cX3_changeOf) (maxL := 4) (ret := (some .int)) (n := 1) (As := [.int r21]) (st := []) hE (c_X3_changeOf K.2.1 h27) (by unfold okY; decide +kernel) rfl h28 rfl (C := RX3) (T := TX3) (N := 16) rfl m_373 m_370 m_371 m_372 m_144 rfl (by simp [Value.category]) (by decide) (by decide) dX4_count_39 ?_
  refine go_eq (pc' := 42) (st' := [.int r25]) (M' := M26) (lv' := [(5, .int r21), (4, .ref r12), (0, .ref v0), (1, .int v1), (2, .int v2), (3, .int v3)]) ?_ rfl rfl rfl rfl
  refine go_aload_n hC dX4_count_42 rfl 2 rfl ?_
  refine go_aload hC dX4_count_43 1 rfl ?_
  refine go_iload hC dX4_count_45 0 rfl ?_
  obtain ⟨h32, h⟩ := os_1 h
  obtain ⟨r29, M30, h31, h⟩ := os_c h
  refine go_callV (bytes := cX4_changeSeen) (maxL := 7) (ret := (some .int)) (n := 2) (As := [.ref r12, .int r21]) (st := [.int r25]) hE (c_X4_changeSeen K.2.1 h31) (by unfold okY; decide +kernel) rfl h32 rfl (C := RX4) (T := TX4) (N := 7) rfl m_377 m_374 m_375 m_376 m_2 rfl (by simp [Value.category]) (by decide) (by decide) dX4_count_47 ?_
  refine go_eq (pc' := 50) (st' := [.int r29, .int r25]) (M' := M30) (lv' := [(5, .int r21), (4, .ref r12), (0, .ref v0), (1, .int v1), (2, .int v2), (3, .int v3)]) ?_ rfl rfl rfl rfl
  refine go_iadd hC dX4_count_50 ?_
  cases h
  exact go_iret hE dX4_count_51
theorem c_X4_count (l : Launch) {x9 : Cx} {k9 : Nat} {M M9 : Mm} {r9 : Int32} {v0 : Nat} {v1 : Int32} {v2 : Int32} {v3 : Int32} (h : fX4_count x9 k9 v0 v1 v2 v3 M = some (.inr r9, M9)) : Fn l x9 yX4_count cX4_count 6 (some .int) 8 131 [.ref v0, .int v1, .int v2, .int v3] M (some (.int r9)) M9 :=
  Fn.of (by decide +kernel) (Nat.le_of_ble_eq_true rfl) rfl (fun K _ hE => tX4_count_0 hE _ _ _ _ _ h)
set_option maxRecDepth 100000 in
set_option maxHeartbeats 4000000 in
theorem uX4_count_0 {x9 : Cx} {K : Ct} {k9 : Nat} {M0 M9 : Mm} {c9 : Nat} (hX : CeX x9 K RX4 cX4_count 6 (some .int) 8 131 "count" M0) (v0 : Nat) (v1 : Int32) (v2 : Int32) (v3 : Int32) (M : Mm) (h : fX4_count x9 k9 v0 v1 v2 v3 M = some (.inl c9, M9)) : Go x9 K 6 (QX x9 K M0 c9 M9) 0 [(0, .ref v0), (1, .int v1), (2, .int v2), (3, .int v3)] [] M := by
  have hE := hX.1
  have hC := hE.1
  unfold fX4_count at h
  refine go_aload_n hC dX4_count_0 rfl 0 rfl ?_
  refine go_iload_n hC dX4_count_1 rfl 1 rfl ?_
  obtain ⟨h4, h⟩ := os_1 h
  rcases os_TX h with h3 | ⟨r1, M2, h3, h⟩
  · exact go_callVX (bytes := cX4_needTransaction) (maxL := 2) (ret := none) (n := 1) (As := [.int v1]) (st := []) hX (cX_X4_needTransaction K.2.1 hX.2.2 h3) (by unfold okY; decide +kernel) rfl h4 rfl (C := RX4) (T := TX4) (N := 7) rfl m_270 m_267 m_268 m_269 m_2 rfl (by simp [Value.category]) (by decide) (by decide) dX4_count_2
  refine go_callV (bytes := cX4_needTransaction) (maxL := 2) (ret := none) (n := 1) (As := [.int v1]) (st := []) hE (c_X4_needTransaction K.2.1 h3) (by unfold okY; decide +kernel) rfl h4 rfl (C := RX4) (T := TX4) (N := 7) rfl m_270 m_267 m_268 m_269 m_2 rfl (by simp [Value.category]) (by decide) (by decide) dX4_count_2 ?_
  refine go_eq (pc' := 5) (st' := []) (M' := M2) (lv' := [(0, .ref v0), (1, .int v1), (2, .int v2), (3, .int v3)]) ?_ rfl rfl rfl rfl
  refine go_iload_n hC dX4_count_5 rfl 2 rfl ?_
  refine go_iload_n hC dX4_count_6 rfl 3 rfl ?_
  rcases os_TX h with h7 | ⟨r5, M6, h7, h⟩
  · exact go_callSX (bytes := cX4_needElement) (maxL := 2) (ret := none) (n := 2) (As := [.int v2, .int v3]) (st := []) hX (cX_X4_needElement K.2.1 hX.2.2 h7) (by unfold okY; decide +kernel) rfl m_352 m_350 m_351 m_2 rfl (by simp [Value.category]) (by decide) (by decide) dX4_count_7
  refine go_callS (bytes := cX4_needElement) (maxL := 2) (ret := none) (n := 2) (As := [.int v2, .int v3]) (st := []) hE (c_X4_needElement K.2.1 h7) (by unfold okY; decide +kernel) rfl m_352 m_350 m_351 m_2 rfl (by simp [Value.category]) (by decide) (by decide) dX4_count_7 ?_
  refine go_eq (pc' := 10) (st' := []) (M' := M6) (lv' := [(0, .ref v0), (1, .int v1), (2, .int v2), (3, .int v3)]) ?_ rfl rfl rfl rfl
  refine go_aload_n hC dX4_count_10 rfl 0 rfl ?_
  obtain ⟨h9, h⟩ := os_1 h
  obtain ⟨b10, h11, h⟩ := os_b h
  refine go_getR 1 hC h9 rfl rfl h11 (C := RX4) (T := TX4) (N := 7) rfl inlX4 (by decide) m_20 (Or.inl rfl) dX4_count_11 ?_
  refine go_iload_n hC dX4_count_14 rfl 1 rfl ?_
  obtain ⟨h15, h⟩ := os_1 h
  obtain ⟨r12, M13, h14, h⟩ := os_c h
  refine go_callV (bytes := cJx4a65c_get_915e3) (maxL := 2) (ret := (some (.object "java/lang/Object"))) (n := 1) (As := [.int v1]) (st := []) hE (c_Jx4a65c_get_915e3 K.2.1 h14) (by unfold okY; decide +kernel) rfl h15 rfl (C := RJx4a65c) (T := TJx4a65c) (N := 3) rfl m_220 m_217 m_218 m_219 m_19 rfl (by simp [Value.category]) (by decide) (by decide) dX4_count_15 ?_
  refine go_eq (pc' := 18) (st' := [.ref r12]) (M' := M13) (lv' := [(0, .ref v0), (1, .int v1), (2, .int v2), (3, .int v3)]) ?_ rfl rfl rfl rfl
  obtain ⟨h16, h⟩ := os_1 h
  refine go_cast hC h16 rfl (C := RX3) (T := TX3) (N := 16) rfl m_145 dX4_count_18 ?_
  refine go_astore (lv' := [(4, .ref r12), (0, .ref v0), (1, .int v1), (2, .int v2), (3, .int v3)]) hC dX4_count_21 (by decide) rfl ?_
  refine go_aload hC dX4_count_23 0 rfl ?_
  rcases os_TX h with h19 | ⟨r17, M18, h19, h⟩
  · exact go_callSX (bytes := cX4_needGoingOn) (maxL := 1) (ret := none) (n := 1) (As := [.ref r12]) (st := []) hX (cX_X4_needGoingOn K.2.1 hX.2.2 h19) (by unfold okY; decide +kernel) rfl m_276 m_274 m_275 m_2 rfl (by simp [Value.category]) (by decide) (by decide) dX4_count_25
  refine go_callS (bytes := cX4_needGoingOn) (maxL := 1) (ret := none) (n := 1) (As := [.ref r12]) (st := []) hE (c_X4_needGoingOn K.2.1 h19) (by unfold okY; decide +kernel) rfl m_276 m_274 m_275 m_2 rfl (by simp [Value.category]) (by decide) (by decide) dX4_count_25 ?_
  refine go_eq (pc' := 28) (st' := []) (M' := M18) (lv' := [(4, .ref r12), (0, .ref v0), (1, .int v1), (2, .int v2), (3, .int v3)]) ?_ rfl rfl rfl rfl
  refine go_iload_n hC dX4_count_28 rfl 3 rfl ?_
  refine go_iload_n hC dX4_count_29 rfl 4 rfl ?_
  obtain ⟨r21, M22, h23, h⟩ := os_c h
  refine go_callS (bytes := cX4_cellOf) (maxL := 2) (ret := (some .int)) (n := 2) (As := [.int v2, .int v3]) (st := []) hE (c_X4_cellOf K.2.1 h23) (by unfold okY; decide +kernel) rfl m_355 m_353 m_354 m_2 rfl (by simp [Value.category]) (by decide) (by decide) dX4_count_30 ?_
  refine go_eq (pc' := 33) (st' := [.int r21]) (M' := M22) (lv' := [(4, .ref r12), (0, .ref v0), (1, .int v1), (2, .int v2), (3, .int v3)]) ?_ rfl rfl rfl rfl
  refine go_istore (lv' := [(5, .int r21), (4, .ref r12), (0, .ref v0), (1, .int v1), (2, .int v2), (3, .int v3)]) hC dX4_count_33 (by decide) rfl ?_
  refine go_aload hC dX4_count_35 1 rfl ?_
  refine go_iload hC dX4_count_37 0 rfl ?_
  obtain ⟨h28, h⟩ := os_1 h
  obtain ⟨r25, M26, h27, h⟩ := os_c h
  refine go_callV (bytes := cX3_changeOf) (maxL := 4) (ret := (some .int)) (n := 1) (As := [.int r21]) (st := []) hE (c_X3_changeOf K.2.1 h27) (by unfold okY; decide +kernel) rfl h28 rfl (C := RX3) (T := TX3) (N := 16) rfl m_373 m_370 m_371 m_372 m_144 rfl (by simp [Value.category]) (by decide) (by decide) dX4_count_39 ?_
  refine go_eq (pc' := 42) (st' := [.int r25]) (M' := M26) (lv' := [(5, .int r21), (4, .ref r12), (0, .ref v0), (1, .int v1), (2, .int v2), (3, .int v3)]) ?_ rfl rfl rfl rfl
  refine go_aload_n hC dX4_count_42 rfl 2 rfl ?_
  refine go_aload hC dX4_count_43 1 rfl ?_
  refine go_iload hC dX4_count_45 0 rfl ?_
  obtain ⟨h32, h⟩ := os_1 h
  obtain ⟨r29, M30, h31, h⟩ := os_c h
  refine go_callV (bytes := cX4_changeSeen) (maxL := 7) (ret := (some .int)) (n := 2) (As := [.ref r12, .int r21]) (st := [.int r25]) hE (c_X4_changeSeen K.2.1 h31) (by unfold okY; decide +kernel) rfl h32 rfl (C := RX4) (T := TX4) (N := 7) rfl m_377 m_374 m_375 m_376 m_2 rfl (by simp [Value.category]) (by decide) (by decide) dX4_count_47 ?_
  refine go_eq (pc' := 50) (st' := [.int r29, .int r25]) (M' := M30) (lv' := [(5, .int r21), (4, .ref r12), (0, .ref v0), (1, .int v1), (2, .int v2), (3, .int v3)]) ?_ rfl rfl rfl rfl
  refine go_iadd hC dX4_count_50 ?_
  cases h
theorem cX_X4_count (l : Launch) (hl : l.stackTraces = false) {x9 : Cx} {k9 : Nat} {M M9 : Mm} {c9 : Nat} {v0 : Nat} {v1 : Int32} {v2 : Int32} {v3 : Int32} (h : fX4_count x9 k9 v0 v1 v2 v3 M = some (.inl c9, M9)) : FnX l x9 yX4_count cX4_count 6 (some .int) 8 131 [.ref v0, .int v1, .int v2, .int v3] M c9 M9 :=
  FnX.of hl (by decide +kernel) (Nat.le_of_ble_eq_true rfl) rfl (fun K _ hX => uX4_count_0 hX _ _ _ _ _ h)
/-! X4_commit -/
def fX4_commit_75 (x9 : Cx) (k9 : Nat) (v2 : Nat) (M : Mm) : Option ((Nat ⊕ Int32) × Mm) :=
  if mK M v2 = 4 then some (.inr (mV M v2 2), M) else none
set_option maxRecDepth 100000 in
set_option maxHeartbeats 4000000 in
theorem tX4_commit_75 {x9 : Cx} {K : Ct} {k9 : Nat} {M0 M9 : Mm} {r9 : Int32} (hE : Ce x9 K RX4 cX4_commit 4 (some .int) 10 241 "commit" M0) (v2 : Nat) (M : Mm) (h : fX4_commit_75 x9 k9 v2 M = some (.inr r9, M9)) : Go x9 K 4 (Qf x9 K M0 (some (.int r9)) M9) 75 [(2, .ref v2)] [] M := by
  have hC := hE.1
  have hnm := hE.2.2.2.2.2.2.2.1
  unfold fX4_commit_75 at h
  refine go_aload_n hC dX4_commit_75 rfl 0 rfl ?_
  obtain ⟨h1, h⟩ := os_1 h
  refine go_getV 2 hC h1 rfl rfl (C := RX3) (T := TX3) (N := 16) rfl inlX3 (by decide) m_277 (Or.inl rfl) dX4_commit_76 ?_
  cases h
  exact go_iret hE dX4_commit_79
def fX4_commit (x9 : Cx) (k9 : Nat) (v0 : Nat) (v1 : Int32) (M : Mm) : Option ((Nat ⊕ Int32) × Mm) :=
  if mK M v0 = 5 then obT (fX4_needTransaction x9 k9 v0 v1 M) (fun r1 M2 => if mK M2 v0 = 5 then ob1 (mP M2 v0 1) (fun b6 => if mK M2 b6 = 7 then ob2 (fJx4a65c_get_915e3 x9 k9 b6 v1 M2) (fun r8 M9 => if mK M9 r8 = 4 then obT (fX4_needGoingOn x9 k9 r8 M9) (fun r13 M14 => if mK M14 v0 = 5 then ob2 (fX4_homesOf x9 k9 v0 r8 M14) (fun r17 M18 => if mK M18 r8 = 4 then ob2 (fX4_bit x9 k9 (mV M18 r8 1) M18) (fun r22 M23 => if mK M23 r8 = 4 then if mK M23 v0 = 5 then ob2 (fX4_isFitAt x9 k9 v0 r8 (mV M23 r8 1) M23) (fun r27 M28 => if r27 = 0 then if mK M28 r8 = 4 then fX4_commit_75 x9 k9 r8 (sV M28 r8 2 (3 : Int32)) else none else if (r17 &&& (r22 ^^^ (-1 : Int32))) = 0 then if mK M28 v0 = 5 then ob2 (fX4_makeCommitted x9 k9 v0 r8 M28) (fun r37 M38 => fX4_commit_75 x9 k9 r8 M38) else none else if mK M28 v0 = 5 then ob2 (fX4_makeWaiting x9 k9 v0 r8 (r17 &&& (r22 ^^^ (-1 : Int32))) M28) (fun r33 M34 => fX4_commit_75 x9 k9 r8 M34) else none) else none else none) else none) else none) else none) else none) else none) else none
set_option maxRecDepth 100000 in
set_option maxHeartbeats 4000000 in
theorem tX4_commit_0 {x9 : Cx} {K : Ct} {k9 : Nat} {M0 M9 : Mm} {r9 : Int32} (hE : Ce x9 K RX4 cX4_commit 4 (some .int) 10 241 "commit" M0) (v0 : Nat) (v1 : Int32) (M : Mm) (h : fX4_commit x9 k9 v0 v1 M = some (.inr r9, M9)) : Go x9 K 4 (Qf x9 K M0 (some (.int r9)) M9) 0 [(0, .ref v0), (1, .int v1)] [] M := by
  have hC := hE.1
  have hnm := hE.2.2.2.2.2.2.2.1
  unfold fX4_commit at h
  refine go_aload_n hC dX4_commit_0 rfl 0 rfl ?_
  refine go_iload_n hC dX4_commit_1 rfl 1 rfl ?_
  obtain ⟨h4, h⟩ := os_1 h
  obtain ⟨r1, M2, h3, h⟩ := os_TR h
  refine go_callV (bytes := cX4_needTransaction) (maxL := 2) (ret := none) (n := 1) (As := [.int v1]) (st := []) hE (c_X4_needTransaction K.2.1 h3) (by unfold okY; decide +kernel) rfl h4 rfl (C := RX4) (T := TX4) (N := 7) rfl m_270 m_267 m_268 m_269 m_2 rfl (by simp [Value.category]) (by decide) (by decide) dX4_commit_2 ?_
  refine go_eq (pc' := 5) (st' := []) (M' := M2) (lv' := [(0, .ref v0), (1, .int v1)]) ?_ rfl rfl rfl rfl
  refine go_aload_n hC dX4_commit_5 rfl 0 rfl ?_
  obtain ⟨h5, h⟩ := os_1 h
  obtain ⟨b6, h7, h⟩ := os_b h
  refine go_getR 1 hC h5 rfl rfl h7 (C := RX4) (T := TX4) (N := 7) rfl inlX4 (by decide) m_20 (Or.inl rfl) dX4_commit_6 ?_
  refine go_iload_n hC dX4_commit_9 rfl 1 rfl ?_
  obtain ⟨h11, h⟩ := os_1 h
  obtain ⟨r8, M9, h10, h⟩ := os_c h
  refine go_callV (bytes := cJx4a65c_get_915e3) (maxL := 2) (ret := (some (.object "java/lang/Object"))) (n := 1) (As := [.int v1]) (st := []) hE (c_Jx4a65c_get_915e3 K.2.1 h10) (by unfold okY; decide +kernel) rfl h11 rfl (C := RJx4a65c) (T := TJx4a65c) (N := 3) rfl m_220 m_217 m_218 m_219 m_19 rfl (by simp [Value.category]) (by decide) (by decide) dX4_commit_10 ?_
  refine go_eq (pc' := 13) (st' := [.ref r8]) (M' := M9) (lv' := [(0, .ref v0), (1, .int v1)]) ?_ rfl rfl rfl rfl
  obtain ⟨h12, h⟩ := os_1 h
  refine go_cast hC h12 rfl (C := RX3) (T := TX3) (N := 16) rfl m_145 dX4_commit_13 ?_
  refine go_astore_n (lv' := [(2, .ref r8), (0, .ref v0), (1, .int v1)]) hC dX4_commit_16 rfl (by decide) rfl ?_
  refine go_aload_n hC dX4_commit_17 rfl 0 rfl ?_
  obtain ⟨r13, M14, h15, h⟩ := os_TR h
  refine go_callS (bytes := cX4_needGoingOn) (maxL := 1) (ret := none) (n := 1) (As := [.ref r8]) (st := []) hE (c_X4_needGoingOn K.2.1 h15) (by unfold okY; decide +kernel) rfl m_276 m_274 m_275 m_2 rfl (by simp [Value.category]) (by decide) (by decide) dX4_commit_18 ?_
  refine go_eq (pc' := 21) (st' := []) (M' := M14) (lv' := [(2, .ref r8), (0, .ref v0), (1, .int v1)]) ?_ rfl rfl rfl rfl
  refine go_aload_n hC dX4_commit_21 rfl 1 rfl ?_
  refine go_aload_n hC dX4_commit_22 rfl 0 rfl ?_
  obtain ⟨h20, h⟩ := os_1 h
  obtain ⟨r17, M18, h19, h⟩ := os_c h
  refine go_callV (bytes := cX4_homesOf) (maxL := 4) (ret := (some .int)) (n := 1) (As := [.ref r8]) (st := []) hE (c_X4_homesOf K.2.1 h19) (by unfold okY; decide +kernel) rfl h20 rfl (C := RX4) (T := TX4) (N := 7) rfl m_392 m_389 m_390 m_391 m_2 rfl (by simp [Value.category]) (by decide) (by decide) dX4_commit_23 ?_
  refine go_eq (pc' := 26) (st' := [.int r17]) (M' := M18) (lv' := [(2, .ref r8), (0, .ref v0), (1, .int v1)]) ?_ rfl rfl rfl rfl
  refine go_aload_n hC dX4_commit_26 rfl 0 rfl ?_
  obtain ⟨h21, h⟩ := os_1 h
  refine go_getV 1 hC h21 rfl rfl (C := RX3) (T := TX3) (N := 16) rfl inlX3 (by decide) m_265 (Or.inl rfl) dX4_commit_27 ?_
  obtain ⟨r22, M23, h24, h⟩ := os_c h
  refine go_callS (bytes := cX4_bit) (maxL := 1) (ret := (some .int)) (n := 1) (As := [.int (mV M18 r8 1)]) (st := [.int r17]) hE (c_X4_bit K.2.1 h24) (by unfold okY; decide +kernel) rfl m_399 m_397 m_398 m_2 rfl (by simp [Value.category]) (by decide) (by decide) dX4_commit_30 ?_
  refine go_eq (pc' := 33) (st' := [.int r22, .int r17]) (M' := M23) (lv' := [(2, .ref r8), (0, .ref v0), (1, .int v1)]) ?_ rfl rfl rfl rfl
  refine go_iconst hC dX4_commit_33 (v := (-1 : Int32)) (by decide +kernel) ?_
  refine go_ixor hC dX4_commit_34 ?_
  refine go_iand hC dX4_commit_35 ?_
  refine go_istore_n (lv' := [(3, .int (r17 &&& (r22 ^^^ (-1 : Int32)))), (2, .ref r8), (0, .ref v0), (1, .int v1)]) hC dX4_commit_36 rfl (by decide) rfl ?_
  refine go_aload_n hC dX4_commit_37 rfl 2 rfl ?_
  refine go_aload_n hC dX4_commit_38 rfl 1 rfl ?_
  refine go_aload_n hC dX4_commit_39 rfl 1 rfl ?_
  obtain ⟨h26, h⟩ := os_1 h
  refine go_getV 1 hC h26 rfl rfl (C := RX3) (T := TX3) (N := 16) rfl inlX3 (by decide) m_265 (Or.inl rfl) dX4_commit_40 ?_
  obtain ⟨h30, h⟩ := os_1 h
  obtain ⟨r27, M28, h29, h⟩ := os_c h
  refine go_callV (bytes := cX4_isFitAt) (maxL := 4) (ret := (some .boolean)) (n := 2) (As := [.ref r8, .int (mV M23 r8 1)]) (st := []) hE (c_X4_isFitAt K.2.1 h29) (by unfold okY; decide +kernel) rfl h30 rfl (C := RX4) (T := TX4) (N := 7) rfl m_403 m_400 m_401 m_402 m_2 rfl (by simp [Value.category]) (by decide) (by decide) dX4_commit_43 ?_
  refine go_eq (pc' := 46) (st' := [.int r27]) (M' := M28) (lv' := [(3, .int (r17 &&& (r22 ^^^ (-1 : Int32)))), (2, .ref r8), (0, .ref v0), (1, .int v1)]) ?_ rfl rfl rfl rfl
  refine go_if_ne (t := 57) hC dX4_commit_46 (by decide) (fun c31 => ?_) (fun c31 => ?_)
  · have h := os_f h c31
    refine go_iload_n hC dX4_commit_57 rfl 0 rfl ?_
    refine go_if_ne (t := 69) hC dX4_commit_58 (by decide) (fun c32 => ?_) (fun c32 => ?_)
    · have h := os_f h c32
      refine go_aload_n hC dX4_commit_69 rfl 2 rfl ?_
      refine go_aload_n hC dX4_commit_70 rfl 1 rfl ?_
      refine go_iload_n hC dX4_commit_71 rfl 0 rfl ?_
      obtain ⟨h36, h⟩ := os_1 h
      obtain ⟨r33, M34, h35, h⟩ := os_c h
      refine go_callV (bytes := cX4_makeWaiting) (maxL := 3) (ret := none) (n := 2) (As := [.ref r8, .int (r17 &&& (r22 ^^^ (-1 : Int32)))]) (st := []) hE (c_X4_makeWaiting K.2.1 h35) (by unfold okY; decide +kernel) rfl h36 rfl (C := RX4) (T := TX4) (N := 7) rfl m_470 m_467 m_468 m_469 m_2 rfl (by simp [Value.category]) (by decide) (by decide) dX4_commit_72 ?_
      refine go_eq (pc' := 75) (st' := []) (M' := M34) (lv' := [(3, .int (r17 &&& (r22 ^^^ (-1 : Int32)))), (2, .ref r8), (0, .ref v0), (1, .int v1)]) ?_ rfl rfl rfl rfl
      refine go_sub (lv' := [(2, .ref r8)]) [1] rfl ?_
      exact tX4_commit_75 hE _ _ h
    · have h := os_t h c32
      refine go_aload_n hC dX4_commit_61 rfl 2 rfl ?_
      refine go_aload_n hC dX4_commit_62 rfl 1 rfl ?_
      obtain ⟨h40, h⟩ := os_1 h
      obtain ⟨r37, M38, h39, h⟩ := os_c h
      refine go_callV (bytes := cX4_makeCommitted) (maxL := 2) (ret := none) (n := 1) (As := [.ref r8]) (st := []) hE (c_X4_makeCommitted K.2.1 h39) (by unfold okY; decide +kernel) rfl h40 rfl (C := RX4) (T := TX4) (N := 7) rfl m_417 m_414 m_415 m_416 m_2 rfl (by simp [Value.category]) (by decide) (by decide) dX4_commit_63 ?_
      refine go_eq (pc' := 66) (st' := []) (M' := M38) (lv' := [(3, .int (r17 &&& (r22 ^^^ (-1 : Int32)))), (2, .ref r8), (0, .ref v0), (1, .int v1)]) ?_ rfl rfl rfl rfl
      refine go_goto (t := 75) hC dX4_commit_66 (by decide) ?_
      refine go_sub (lv' := [(2, .ref r8)]) [1] rfl ?_
      exact tX4_commit_75 hE _ _ h
  · have h := os_t h c31
    refine go_aload_n hC dX4_commit_49 rfl 1 rfl ?_
    refine go_iconst hC dX4_commit_50 (v := (3 : Int32)) (by decide +kernel) ?_
    obtain ⟨h41, h⟩ := os_1 h
    refine go_putV 2 hC h41 rfl rfl (C := RX3) (T := TX3) (N := 16) rfl inlX3 tyX3 tyX3_ok nmX3 (by decide) m_277 (Or.inl rfl) (Or.inl rfl) (tyX3_ok 2 (by decide)) rfl rfl dX4_commit_51 ?_
    refine go_goto (t := 75) hC dX4_commit_54 (by decide) ?_
    refine go_sub (lv' := [(2, .ref r8)]) [1] rfl ?_
    exact tX4_commit_75 hE _ _ h
theorem c_X4_commit (l : Launch) {x9 : Cx} {k9 : Nat} {M M9 : Mm} {r9 : Int32} {v0 : Nat} {v1 : Int32} (h : fX4_commit x9 k9 v0 v1 M = some (.inr r9, M9)) : Fn l x9 yX4_commit cX4_commit 4 (some .int) 10 241 [.ref v0, .int v1] M (some (.int r9)) M9 :=
  Fn.of (by decide +kernel) (Nat.le_of_ble_eq_true rfl) rfl (fun K _ hE => tX4_commit_0 hE _ _ _ h)
set_option maxRecDepth 100000 in
set_option maxHeartbeats 4000000 in
theorem uX4_commit_75 {x9 : Cx} {K : Ct} {k9 : Nat} {M0 M9 : Mm} {c9 : Nat} (hX : CeX x9 K RX4 cX4_commit 4 (some .int) 10 241 "commit" M0) (v2 : Nat) (M : Mm) (h : fX4_commit_75 x9 k9 v2 M = some (.inl c9, M9)) : Go x9 K 4 (QX x9 K M0 c9 M9) 75 [(2, .ref v2)] [] M := by
  have hE := hX.1
  have hC := hE.1
  unfold fX4_commit_75 at h
  refine go_aload_n hC dX4_commit_75 rfl 0 rfl ?_
  obtain ⟨h1, h⟩ := os_1 h
  refine go_getV 2 hC h1 rfl rfl (C := RX3) (T := TX3) (N := 16) rfl inlX3 (by decide) m_277 (Or.inl rfl) dX4_commit_76 ?_
  cases h
set_option maxRecDepth 100000 in
set_option maxHeartbeats 4000000 in
theorem uX4_commit_0 {x9 : Cx} {K : Ct} {k9 : Nat} {M0 M9 : Mm} {c9 : Nat} (hX : CeX x9 K RX4 cX4_commit 4 (some .int) 10 241 "commit" M0) (v0 : Nat) (v1 : Int32) (M : Mm) (h : fX4_commit x9 k9 v0 v1 M = some (.inl c9, M9)) : Go x9 K 4 (QX x9 K M0 c9 M9) 0 [(0, .ref v0), (1, .int v1)] [] M := by
  have hE := hX.1
  have hC := hE.1
  unfold fX4_commit at h
  refine go_aload_n hC dX4_commit_0 rfl 0 rfl ?_
  refine go_iload_n hC dX4_commit_1 rfl 1 rfl ?_
  obtain ⟨h4, h⟩ := os_1 h
  rcases os_TX h with h3 | ⟨r1, M2, h3, h⟩
  · exact go_callVX (bytes := cX4_needTransaction) (maxL := 2) (ret := none) (n := 1) (As := [.int v1]) (st := []) hX (cX_X4_needTransaction K.2.1 hX.2.2 h3) (by unfold okY; decide +kernel) rfl h4 rfl (C := RX4) (T := TX4) (N := 7) rfl m_270 m_267 m_268 m_269 m_2 rfl (by simp [Value.category]) (by decide) (by decide) dX4_commit_2
  refine go_callV (bytes := cX4_needTransaction) (maxL := 2) (ret := none) (n := 1) (As := [.int v1]) (st := []) hE (c_X4_needTransaction K.2.1 h3) (by unfold okY; decide +kernel) rfl h4 rfl (C := RX4) (T := TX4) (N := 7) rfl m_270 m_267 m_268 m_269 m_2 rfl (by simp [Value.category]) (by decide) (by decide) dX4_commit_2 ?_
  refine go_eq (pc' := 5) (st' := []) (M' := M2) (lv' := [(0, .ref v0), (1, .int v1)]) ?_ rfl rfl rfl rfl
  refine go_aload_n hC dX4_commit_5 rfl 0 rfl ?_
  obtain ⟨h5, h⟩ := os_1 h
  obtain ⟨b6, h7, h⟩ := os_b h
  refine go_getR 1 hC h5 rfl rfl h7 (C := RX4) (T := TX4) (N := 7) rfl inlX4 (by decide) m_20 (Or.inl rfl) dX4_commit_6 ?_
  refine go_iload_n hC dX4_commit_9 rfl 1 rfl ?_
  obtain ⟨h11, h⟩ := os_1 h
  obtain ⟨r8, M9, h10, h⟩ := os_c h
  refine go_callV (bytes := cJx4a65c_get_915e3) (maxL := 2) (ret := (some (.object "java/lang/Object"))) (n := 1) (As := [.int v1]) (st := []) hE (c_Jx4a65c_get_915e3 K.2.1 h10) (by unfold okY; decide +kernel) rfl h11 rfl (C := RJx4a65c) (T := TJx4a65c) (N := 3) rfl m_220 m_217 m_218 m_219 m_19 rfl (by simp [Value.category]) (by decide) (by decide) dX4_commit_10 ?_
  refine go_eq (pc' := 13) (st' := [.ref r8]) (M' := M9) (lv' := [(0, .ref v0), (1, .int v1)]) ?_ rfl rfl rfl rfl
  obtain ⟨h12, h⟩ := os_1 h
  refine go_cast hC h12 rfl (C := RX3) (T := TX3) (N := 16) rfl m_145 dX4_commit_13 ?_
  refine go_astore_n (lv' := [(2, .ref r8), (0, .ref v0), (1, .int v1)]) hC dX4_commit_16 rfl (by decide) rfl ?_
  refine go_aload_n hC dX4_commit_17 rfl 0 rfl ?_
  rcases os_TX h with h15 | ⟨r13, M14, h15, h⟩
  · exact go_callSX (bytes := cX4_needGoingOn) (maxL := 1) (ret := none) (n := 1) (As := [.ref r8]) (st := []) hX (cX_X4_needGoingOn K.2.1 hX.2.2 h15) (by unfold okY; decide +kernel) rfl m_276 m_274 m_275 m_2 rfl (by simp [Value.category]) (by decide) (by decide) dX4_commit_18
  refine go_callS (bytes := cX4_needGoingOn) (maxL := 1) (ret := none) (n := 1) (As := [.ref r8]) (st := []) hE (c_X4_needGoingOn K.2.1 h15) (by unfold okY; decide +kernel) rfl m_276 m_274 m_275 m_2 rfl (by simp [Value.category]) (by decide) (by decide) dX4_commit_18 ?_
  refine go_eq (pc' := 21) (st' := []) (M' := M14) (lv' := [(2, .ref r8), (0, .ref v0), (1, .int v1)]) ?_ rfl rfl rfl rfl
  refine go_aload_n hC dX4_commit_21 rfl 1 rfl ?_
  refine go_aload_n hC dX4_commit_22 rfl 0 rfl ?_
  obtain ⟨h20, h⟩ := os_1 h
  obtain ⟨r17, M18, h19, h⟩ := os_c h
  refine go_callV (bytes := cX4_homesOf) (maxL := 4) (ret := (some .int)) (n := 1) (As := [.ref r8]) (st := []) hE (c_X4_homesOf K.2.1 h19) (by unfold okY; decide +kernel) rfl h20 rfl (C := RX4) (T := TX4) (N := 7) rfl m_392 m_389 m_390 m_391 m_2 rfl (by simp [Value.category]) (by decide) (by decide) dX4_commit_23 ?_
  refine go_eq (pc' := 26) (st' := [.int r17]) (M' := M18) (lv' := [(2, .ref r8), (0, .ref v0), (1, .int v1)]) ?_ rfl rfl rfl rfl
  refine go_aload_n hC dX4_commit_26 rfl 0 rfl ?_
  obtain ⟨h21, h⟩ := os_1 h
  refine go_getV 1 hC h21 rfl rfl (C := RX3) (T := TX3) (N := 16) rfl inlX3 (by decide) m_265 (Or.inl rfl) dX4_commit_27 ?_
  obtain ⟨r22, M23, h24, h⟩ := os_c h
  refine go_callS (bytes := cX4_bit) (maxL := 1) (ret := (some .int)) (n := 1) (As := [.int (mV M18 r8 1)]) (st := [.int r17]) hE (c_X4_bit K.2.1 h24) (by unfold okY; decide +kernel) rfl m_399 m_397 m_398 m_2 rfl (by simp [Value.category]) (by decide) (by decide) dX4_commit_30 ?_
  refine go_eq (pc' := 33) (st' := [.int r22, .int r17]) (M' := M23) (lv' := [(2, .ref r8), (0, .ref v0), (1, .int v1)]) ?_ rfl rfl rfl rfl
  refine go_iconst hC dX4_commit_33 (v := (-1 : Int32)) (by decide +kernel) ?_
  refine go_ixor hC dX4_commit_34 ?_
  refine go_iand hC dX4_commit_35 ?_
  refine go_istore_n (lv' := [(3, .int (r17 &&& (r22 ^^^ (-1 : Int32)))), (2, .ref r8), (0, .ref v0), (1, .int v1)]) hC dX4_commit_36 rfl (by decide) rfl ?_
  refine go_aload_n hC dX4_commit_37 rfl 2 rfl ?_
  refine go_aload_n hC dX4_commit_38 rfl 1 rfl ?_
  refine go_aload_n hC dX4_commit_39 rfl 1 rfl ?_
  obtain ⟨h26, h⟩ := os_1 h
  refine go_getV 1 hC h26 rfl rfl (C := RX3) (T := TX3) (N := 16) rfl inlX3 (by decide) m_265 (Or.inl rfl) dX4_commit_40 ?_
  obtain ⟨h30, h⟩ := os_1 h
  obtain ⟨r27, M28, h29, h⟩ := os_c h
  refine go_callV (bytes := cX4_isFitAt) (maxL := 4) (ret := (some .boolean)) (n := 2) (As := [.ref r8, .int (mV M23 r8 1)]) (st := []) hE (c_X4_isFitAt K.2.1 h29) (by unfold okY; decide +kernel) rfl h30 rfl (C := RX4) (T := TX4) (N := 7) rfl m_403 m_400 m_401 m_402 m_2 rfl (by simp [Value.category]) (by decide) (by decide) dX4_commit_43 ?_
  refine go_eq (pc' := 46) (st' := [.int r27]) (M' := M28) (lv' := [(3, .int (r17 &&& (r22 ^^^ (-1 : Int32)))), (2, .ref r8), (0, .ref v0), (1, .int v1)]) ?_ rfl rfl rfl rfl
  refine go_if_ne (t := 57) hC dX4_commit_46 (by decide) (fun c31 => ?_) (fun c31 => ?_)
  · have h := os_f h c31
    refine go_iload_n hC dX4_commit_57 rfl 0 rfl ?_
    refine go_if_ne (t := 69) hC dX4_commit_58 (by decide) (fun c32 => ?_) (fun c32 => ?_)
    · have h := os_f h c32
      refine go_aload_n hC dX4_commit_69 rfl 2 rfl ?_
      refine go_aload_n hC dX4_commit_70 rfl 1 rfl ?_
      refine go_iload_n hC dX4_commit_71 rfl 0 rfl ?_
      obtain ⟨h36, h⟩ := os_1 h
      obtain ⟨r33, M34, h35, h⟩ := os_c h
      refine go_callV (bytes := cX4_makeWaiting) (maxL := 3) (ret := none) (n := 2) (As := [.ref r8, .int (r17 &&& (r22 ^^^ (-1 : Int32)))]) (st := []) hE (c_X4_makeWaiting K.2.1 h35) (by unfold okY; decide +kernel) rfl h36 rfl (C := RX4) (T := TX4) (N := 7) rfl m_470 m_467 m_468 m_469 m_2 rfl (by simp [Value.category]) (by decide) (by decide) dX4_commit_72 ?_
      refine go_eq (pc' := 75) (st' := []) (M' := M34) (lv' := [(3, .int (r17 &&& (r22 ^^^ (-1 : Int32)))), (2, .ref r8), (0, .ref v0), (1, .int v1)]) ?_ rfl rfl rfl rfl
      refine go_sub (lv' := [(2, .ref r8)]) [1] rfl ?_
      exact uX4_commit_75 hX _ _ h
    · have h := os_t h c32
      refine go_aload_n hC dX4_commit_61 rfl 2 rfl ?_
      refine go_aload_n hC dX4_commit_62 rfl 1 rfl ?_
      obtain ⟨h40, h⟩ := os_1 h
      obtain ⟨r37, M38, h39, h⟩ := os_c h
      refine go_callV (bytes := cX4_makeCommitted) (maxL := 2) (ret := none) (n := 1) (As := [.ref r8]) (st := []) hE (c_X4_makeCommitted K.2.1 h39) (by unfold okY; decide +kernel) rfl h40 rfl (C := RX4) (T := TX4) (N := 7) rfl m_417 m_414 m_415 m_416 m_2 rfl (by simp [Value.category]) (by decide) (by decide) dX4_commit_63 ?_
      refine go_eq (pc' := 66) (st' := []) (M' := M38) (lv' := [(3, .int (r17 &&& (r22 ^^^ (-1 : Int32)))), (2, .ref r8), (0, .ref v0), (1, .int v1)]) ?_ rfl rfl rfl rfl
      refine go_goto (t := 75) hC dX4_commit_66 (by decide) ?_
      refine go_sub (lv' := [(2, .ref r8)]) [1] rfl ?_
      exact uX4_commit_75 hX _ _ h
  · have h := os_t h c31
    refine go_aload_n hC dX4_commit_49 rfl 1 rfl ?_
    refine go_iconst hC dX4_commit_50 (v := (3 : Int32)) (by decide +kernel) ?_
    obtain ⟨h41, h⟩ := os_1 h
    refine go_putV 2 hC h41 rfl rfl (C := RX3) (T := TX3) (N := 16) rfl inlX3 tyX3 tyX3_ok nmX3 (by decide) m_277 (Or.inl rfl) (Or.inl rfl) (tyX3_ok 2 (by decide)) rfl rfl dX4_commit_51 ?_
    refine go_goto (t := 75) hC dX4_commit_54 (by decide) ?_
    refine go_sub (lv' := [(2, .ref r8)]) [1] rfl ?_
    exact uX4_commit_75 hX _ _ h
theorem cX_X4_commit (l : Launch) (hl : l.stackTraces = false) {x9 : Cx} {k9 : Nat} {M M9 : Mm} {c9 : Nat} {v0 : Nat} {v1 : Int32} (h : fX4_commit x9 k9 v0 v1 M = some (.inl c9, M9)) : FnX l x9 yX4_commit cX4_commit 4 (some .int) 10 241 [.ref v0, .int v1] M c9 M9 :=
  FnX.of hl (by decide +kernel) (Nat.le_of_ble_eq_true rfl) rfl (fun K _ hX => uX4_commit_0 hX _ _ _ h)
/-! X4_abort -/
def fX4_abort (x9 : Cx) (k9 : Nat) (v0 : Nat) (v1 : Int32) (M : Mm) : Option ((Nat ⊕ Unit) × Mm) :=
  if mK M v0 = 5 then obT (fX4_needTransaction x9 k9 v0 v1 M) (fun r1 M2 => if mK M2 v0 = 5 then ob1 (mP M2 v0 1) (fun b6 => if mK M2 b6 = 7 then ob2 (fJx4a65c_get_915e3 x9 k9 b6 v1 M2) (fun r8 M9 => if mK M9 r8 = 4 then obT (fX4_needGoingOn x9 k9 r8 M9) (fun r13 M14 => if mK M14 r8 = 4 then some (.inr (), (sV M14 r8 2 (3 : Int32))) else none) else none) else none) else none) else none
set_option maxRecDepth 100000 in
set_option maxHeartbeats 4000000 in
theorem tX4_abort_0 {x9 : Cx} {K : Ct} {k9 : Nat} {M0 M9 : Mm} {r9 : Unit} (hE : Ce x9 K RX4 cX4_abort 3 none 8 131 "abort" M0) (v0 : Nat) (v1 : Int32) (M : Mm) (h : fX4_abort x9 k9 v0 v1 M = some (.inr r9, M9)) : Go x9 K 3 (Qf x9 K M0 none M9) 0 [(0, .ref v0), (1, .int v1)] [] M := by
  have hC := hE.1
  have hnm := hE.2.2.2.2.2.2.2.1
  unfold fX4_abort at h
  refine go_aload_n hC dX4_abort_0 rfl 0 rfl ?_
  refine go_iload_n hC dX4_abort_1 rfl 1 rfl ?_
  obtain ⟨h4, h⟩ := os_1 h
  obtain ⟨r1, M2, h3, h⟩ := os_TR h
  refine go_callV (bytes := cX4_needTransaction) (maxL := 2) (ret := none) (n := 1) (As := [.int v1]) (st := []) hE (c_X4_needTransaction K.2.1 h3) (by unfold okY; decide +kernel) rfl h4 rfl (C := RX4) (T := TX4) (N := 7) rfl m_270 m_267 m_268 m_269 m_2 rfl (by simp [Value.category]) (by decide) (by decide) dX4_abort_2 ?_
  refine go_eq (pc' := 5) (st' := []) (M' := M2) (lv' := [(0, .ref v0), (1, .int v1)]) ?_ rfl rfl rfl rfl
  refine go_aload_n hC dX4_abort_5 rfl 0 rfl ?_
  obtain ⟨h5, h⟩ := os_1 h
  obtain ⟨b6, h7, h⟩ := os_b h
  refine go_getR 1 hC h5 rfl rfl h7 (C := RX4) (T := TX4) (N := 7) rfl inlX4 (by decide) m_20 (Or.inl rfl) dX4_abort_6 ?_
  refine go_iload_n hC dX4_abort_9 rfl 1 rfl ?_
  obtain ⟨h11, h⟩ := os_1 h
  obtain ⟨r8, M9, h10, h⟩ := os_c h
  refine go_callV (bytes := cJx4a65c_get_915e3) (maxL := 2) (ret := (some (.object "java/lang/Object"))) (n := 1) (As := [.int v1]) (st := []) hE (c_Jx4a65c_get_915e3 K.2.1 h10) (by unfold okY; decide +kernel) rfl h11 rfl (C := RJx4a65c) (T := TJx4a65c) (N := 3) rfl m_220 m_217 m_218 m_219 m_19 rfl (by simp [Value.category]) (by decide) (by decide) dX4_abort_10 ?_
  refine go_eq (pc' := 13) (st' := [.ref r8]) (M' := M9) (lv' := [(0, .ref v0), (1, .int v1)]) ?_ rfl rfl rfl rfl
  obtain ⟨h12, h⟩ := os_1 h
  refine go_cast hC h12 rfl (C := RX3) (T := TX3) (N := 16) rfl m_145 dX4_abort_13 ?_
  refine go_astore_n (lv' := [(2, .ref r8), (0, .ref v0), (1, .int v1)]) hC dX4_abort_16 rfl (by decide) rfl ?_
  refine go_aload_n hC dX4_abort_17 rfl 0 rfl ?_
  obtain ⟨r13, M14, h15, h⟩ := os_TR h
  refine go_callS (bytes := cX4_needGoingOn) (maxL := 1) (ret := none) (n := 1) (As := [.ref r8]) (st := []) hE (c_X4_needGoingOn K.2.1 h15) (by unfold okY; decide +kernel) rfl m_276 m_274 m_275 m_2 rfl (by simp [Value.category]) (by decide) (by decide) dX4_abort_18 ?_
  refine go_eq (pc' := 21) (st' := []) (M' := M14) (lv' := [(2, .ref r8), (0, .ref v0), (1, .int v1)]) ?_ rfl rfl rfl rfl
  refine go_aload_n hC dX4_abort_21 rfl 0 rfl ?_
  refine go_iconst hC dX4_abort_22 (v := (3 : Int32)) (by decide +kernel) ?_
  obtain ⟨h17, h⟩ := os_1 h
  refine go_putV 2 hC h17 rfl rfl (C := RX3) (T := TX3) (N := 16) rfl inlX3 tyX3 tyX3_ok nmX3 (by decide) m_277 (Or.inl rfl) (Or.inl rfl) (tyX3_ok 2 (by decide)) rfl rfl dX4_abort_23 ?_
  cases h
  exact go_vret hE dX4_abort_26
theorem c_X4_abort (l : Launch) {x9 : Cx} {k9 : Nat} {M M9 : Mm} {r9 : Unit} {v0 : Nat} {v1 : Int32} (h : fX4_abort x9 k9 v0 v1 M = some (.inr r9, M9)) : Fn l x9 yX4_abort cX4_abort 3 none 8 131 [.ref v0, .int v1] M none M9 :=
  Fn.of (by decide +kernel) (Nat.le_of_ble_eq_true rfl) rfl (fun K _ hE => tX4_abort_0 hE _ _ _ h)
set_option maxRecDepth 100000 in
set_option maxHeartbeats 4000000 in
theorem uX4_abort_0 {x9 : Cx} {K : Ct} {k9 : Nat} {M0 M9 : Mm} {c9 : Nat} (hX : CeX x9 K RX4 cX4_abort 3 none 8 131 "abort" M0) (v0 : Nat) (v1 : Int32) (M : Mm) (h : fX4_abort x9 k9 v0 v1 M = some (.inl c9, M9)) : Go x9 K 3 (QX x9 K M0 c9 M9) 0 [(0, .ref v0), (1, .int v1)] [] M := by
  have hE := hX.1
  have hC := hE.1
  unfold fX4_abort at h
  refine go_aload_n hC dX4_abort_0 rfl 0 rfl ?_
  refine go_iload_n hC dX4_abort_1 rfl 1 rfl ?_
  obtain ⟨h4, h⟩ := os_1 h
  rcases os_TX h with h3 | ⟨r1, M2, h3, h⟩
  · exact go_callVX (bytes := cX4_needTransaction) (maxL := 2) (ret := none) (n := 1) (As := [.int v1]) (st := []) hX (cX_X4_needTransaction K.2.1 hX.2.2 h3) (by unfold okY; decide +kernel) rfl h4 rfl (C := RX4) (T := TX4) (N := 7) rfl m_270 m_267 m_268 m_269 m_2 rfl (by simp [Value.category]) (by decide) (by decide) dX4_abort_2
  refine go_callV (bytes := cX4_needTransaction) (maxL := 2) (ret := none) (n := 1) (As := [.int v1]) (st := []) hE (c_X4_needTransaction K.2.1 h3) (by unfold okY; decide +kernel) rfl h4 rfl (C := RX4) (T := TX4) (N := 7) rfl m_270 m_267 m_268 m_269 m_2 rfl (by simp [Value.category]) (by decide) (by decide) dX4_abort_2 ?_
  refine go_eq (pc' := 5) (st' := []) (M' := M2) (lv' := [(0, .ref v0), (1, .int v1)]) ?_ rfl rfl rfl rfl
  refine go_aload_n hC dX4_abort_5 rfl 0 rfl ?_
  obtain ⟨h5, h⟩ := os_1 h
  obtain ⟨b6, h7, h⟩ := os_b h
  refine go_getR 1 hC h5 rfl rfl h7 (C := RX4) (T := TX4) (N := 7) rfl inlX4 (by decide) m_20 (Or.inl rfl) dX4_abort_6 ?_
  refine go_iload_n hC dX4_abort_9 rfl 1 rfl ?_
  obtain ⟨h11, h⟩ := os_1 h
  obtain ⟨r8, M9, h10, h⟩ := os_c h
  refine go_callV (bytes := cJx4a65c_get_915e3) (maxL := 2) (ret := (some (.object "java/lang/Object"))) (n := 1) (As := [.int v1]) (st := []) hE (c_Jx4a65c_get_915e3 K.2.1 h10) (by unfold okY; decide +kernel) rfl h11 rfl (C := RJx4a65c) (T := TJx4a65c) (N := 3) rfl m_220 m_217 m_218 m_219 m_19 rfl (by simp [Value.category]) (by decide) (by decide) dX4_abort_10 ?_
  refine go_eq (pc' := 13) (st' := [.ref r8]) (M' := M9) (lv' := [(0, .ref v0), (1, .int v1)]) ?_ rfl rfl rfl rfl
  obtain ⟨h12, h⟩ := os_1 h
  refine go_cast hC h12 rfl (C := RX3) (T := TX3) (N := 16) rfl m_145 dX4_abort_13 ?_
  refine go_astore_n (lv' := [(2, .ref r8), (0, .ref v0), (1, .int v1)]) hC dX4_abort_16 rfl (by decide) rfl ?_
  refine go_aload_n hC dX4_abort_17 rfl 0 rfl ?_
  rcases os_TX h with h15 | ⟨r13, M14, h15, h⟩
  · exact go_callSX (bytes := cX4_needGoingOn) (maxL := 1) (ret := none) (n := 1) (As := [.ref r8]) (st := []) hX (cX_X4_needGoingOn K.2.1 hX.2.2 h15) (by unfold okY; decide +kernel) rfl m_276 m_274 m_275 m_2 rfl (by simp [Value.category]) (by decide) (by decide) dX4_abort_18
  refine go_callS (bytes := cX4_needGoingOn) (maxL := 1) (ret := none) (n := 1) (As := [.ref r8]) (st := []) hE (c_X4_needGoingOn K.2.1 h15) (by unfold okY; decide +kernel) rfl m_276 m_274 m_275 m_2 rfl (by simp [Value.category]) (by decide) (by decide) dX4_abort_18 ?_
  refine go_eq (pc' := 21) (st' := []) (M' := M14) (lv' := [(2, .ref r8), (0, .ref v0), (1, .int v1)]) ?_ rfl rfl rfl rfl
  refine go_aload_n hC dX4_abort_21 rfl 0 rfl ?_
  refine go_iconst hC dX4_abort_22 (v := (3 : Int32)) (by decide +kernel) ?_
  obtain ⟨h17, h⟩ := os_1 h
  refine go_putV 2 hC h17 rfl rfl (C := RX3) (T := TX3) (N := 16) rfl inlX3 tyX3 tyX3_ok nmX3 (by decide) m_277 (Or.inl rfl) (Or.inl rfl) (tyX3_ok 2 (by decide)) rfl rfl dX4_abort_23 ?_
  cases h
theorem cX_X4_abort (l : Launch) (hl : l.stackTraces = false) {x9 : Cx} {k9 : Nat} {M M9 : Mm} {c9 : Nat} {v0 : Nat} {v1 : Int32} (h : fX4_abort x9 k9 v0 v1 M = some (.inl c9, M9)) : FnX l x9 yX4_abort cX4_abort 3 none 8 131 [.ref v0, .int v1] M c9 M9 :=
  FnX.of hl (by decide +kernel) (Nat.le_of_ble_eq_true rfl) rfl (fun K _ hX => uX4_abort_0 hX _ _ _ h)
/-! X4_again -/
def fX4_again (x9 : Cx) (k9 : Nat) (v0 : Nat) (v1 : Int32) (M : Mm) : Option ((Nat ⊕ Int32) × Mm) :=
  if mK M v0 = 5 then obT (fX4_needTransaction x9 k9 v0 v1 M) (fun r1 M2 => if mK M2 v0 = 5 then ob1 (mP M2 v0 1) (fun b6 => if mK M2 b6 = 7 then ob2 (fJx4a65c_get_915e3 x9 k9 b6 v1 M2) (fun r8 M9 => if mK M9 r8 = 4 then if mK M9 v0 = 5 then ob1 (mP M9 v0 0) (fun b14 => if mK M9 r8 = 4 then if (mK M9 b14 = 10 ∨ mK M9 b14 = 11) ∧ ¬ ((mV M9 r8 1) < 0 ∨ mN M9 b14 ≤ ((mV M9 r8 1)).toNatClampNeg) then ob1 (mP M9 b14 ((mV M9 r8 1)).toNatClampNeg) (fun b19 => if mK M9 b19 = 3 then obT (fX4_needState x9 k9 (mV M9 b19 0) M9) (fun r21 M22 => if mK M22 r8 = 4 then if (mV M22 r8 2) = (1 : Int32) then if mK M22 r8 = 4 then if mK M22 r8 = 4 then if mK M22 v0 = 5 then ob2 (fX4_sendToAll x9 k9 v0 (1 : Int32) r8 ((mV M22 r8 10) &&& ((mV M22 r8 11) ^^^ (-1 : Int32))) M22) (fun r29 M30 => some (.inr r29, M30)) else none else none else none else if (mV M22 r8 2) = (2 : Int32) then if mK M22 v0 = 5 then ob2 (fX4_allSites x9 k9 v0 M22) (fun r34 M35 => if mK M35 r8 = 4 then if mK M35 v0 = 5 then ob2 (fX4_sendToAll x9 k9 v0 (5 : Int32) r8 (r34 &&& ((mV M35 r8 12) ^^^ (-1 : Int32))) M35) (fun r39 M40 => some (.inr r39, M40)) else none else none) else none else if (mV M22 r8 2) = (3 : Int32) then if mK M22 r8 = 4 then if mK M22 v0 = 5 then ob2 (fX4_sendToAll x9 k9 v0 (4 : Int32) r8 (mV M22 r8 10) M22) (fun r45 M46 => some (.inr r45, M46)) else none else none else if (mV M22 r8 2) = (4 : Int32) then if mK M22 r8 = 4 then if mK M22 v0 = 5 then ob2 (fX4_sendToAll x9 k9 v0 (4 : Int32) r8 (mV M22 r8 10) M22) (fun r51 M52 => some (.inr r51, M52)) else none else none else some (.inr (0 : Int32), M22) else none) else none) else none else none) else none else none) else none) else none) else none
set_option maxRecDepth 100000 in
set_option maxHeartbeats 4000000 in
theorem tX4_again_0 {x9 : Cx} {K : Ct} {k9 : Nat} {M0 M9 : Mm} {r9 : Int32} (hE : Ce x9 K RX4 cX4_again 3 (some .int) 9 219 "again" M0) (v0 : Nat) (v1 : Int32) (M : Mm) (h : fX4_again x9 k9 v0 v1 M = some (.inr r9, M9)) : Go x9 K 3 (Qf x9 K M0 (some (.int r9)) M9) 0 [(0, .ref v0), (1, .int v1)] [] M := by
  have hC := hE.1
  have hnm := hE.2.2.2.2.2.2.2.1
  unfold fX4_again at h
  refine go_aload_n hC dX4_again_0 rfl 0 rfl ?_
  refine go_iload_n hC dX4_again_1 rfl 1 rfl ?_
  obtain ⟨h4, h⟩ := os_1 h
  obtain ⟨r1, M2, h3, h⟩ := os_TR h
  refine go_callV (bytes := cX4_needTransaction) (maxL := 2) (ret := none) (n := 1) (As := [.int v1]) (st := []) hE (c_X4_needTransaction K.2.1 h3) (by unfold okY; decide +kernel) rfl h4 rfl (C := RX4) (T := TX4) (N := 7) rfl m_270 m_267 m_268 m_269 m_2 rfl (by simp [Value.category]) (by decide) (by decide) dX4_again_2 ?_
  refine go_eq (pc' := 5) (st' := []) (M' := M2) (lv' := [(0, .ref v0), (1, .int v1)]) ?_ rfl rfl rfl rfl
  refine go_aload_n hC dX4_again_5 rfl 0 rfl ?_
  obtain ⟨h5, h⟩ := os_1 h
  obtain ⟨b6, h7, h⟩ := os_b h
  refine go_getR 1 hC h5 rfl rfl h7 (C := RX4) (T := TX4) (N := 7) rfl inlX4 (by decide) m_20 (Or.inl rfl) dX4_again_6 ?_
  refine go_iload_n hC dX4_again_9 rfl 1 rfl ?_
  obtain ⟨h11, h⟩ := os_1 h
  obtain ⟨r8, M9, h10, h⟩ := os_c h
  refine go_callV (bytes := cJx4a65c_get_915e3) (maxL := 2) (ret := (some (.object "java/lang/Object"))) (n := 1) (As := [.int v1]) (st := []) hE (c_Jx4a65c_get_915e3 K.2.1 h10) (by unfold okY; decide +kernel) rfl h11 rfl (C := RJx4a65c) (T := TJx4a65c) (N := 3) rfl m_220 m_217 m_218 m_219 m_19 rfl (by simp [Value.category]) (by decide) (by decide) dX4_again_10 ?_
  refine go_eq (pc' := 13) (st' := [.ref r8]) (M' := M9) (lv' := [(0, .ref v0), (1, .int v1)]) ?_ rfl rfl rfl rfl
  obtain ⟨h12, h⟩ := os_1 h
  refine go_cast hC h12 rfl (C := RX3) (T := TX3) (N := 16) rfl m_145 dX4_again_13 ?_
  refine go_astore_n (lv' := [(2, .ref r8), (0, .ref v0), (1, .int v1)]) hC dX4_again_16 rfl (by decide) rfl ?_
  refine go_aload_n hC dX4_again_17 rfl 1 rfl ?_
  obtain ⟨h13, h⟩ := os_1 h
  obtain ⟨b14, h15, h⟩ := os_b h
  refine go_getR 0 hC h13 rfl rfl h15 (C := RX4) (T := TX4) (N := 7) rfl inlX4 (by decide) m_14 (Or.inl rfl) dX4_again_18 ?_
  refine go_aload_n hC dX4_again_21 rfl 0 rfl ?_
  obtain ⟨h16, h⟩ := os_1 h
  refine go_getV 1 hC h16 rfl rfl (C := RX3) (T := TX3) (N := 16) rfl inlX3 (by decide) m_265 (Or.inl rfl) dX4_again_22 ?_
  obtain ⟨h17, h⟩ := os_1 h
  obtain ⟨b19, h18, h⟩ := os_b h
  refine go_aald hC h17.1 h17.2 h18 dX4_again_25 ?_
  obtain ⟨h20, h⟩ := os_1 h
  refine go_getV 0 hC h20 rfl rfl (C := RX2) (T := TX2) (N := 5) rfl inlX2 (by decide) m_141 (Or.inl rfl) dX4_again_26 ?_
  obtain ⟨r21, M22, h23, h⟩ := os_TR h
  refine go_callS (bytes := cX4_needState) (maxL := 1) (ret := none) (n := 1) (As := [.int (mV M9 b19 0)]) (st := []) hE (c_X4_needState K.2.1 h23) (by unfold okY; decide +kernel) rfl m_153 m_151 m_152 m_2 rfl (by simp [Value.category]) (by decide) (by decide) dX4_again_29 ?_
  refine go_eq (pc' := 32) (st' := []) (M' := M22) (lv' := [(2, .ref r8), (0, .ref v0), (1, .int v1)]) ?_ rfl rfl rfl rfl
  refine go_aload_n hC dX4_again_32 rfl 0 rfl ?_
  obtain ⟨h25, h⟩ := os_1 h
  refine go_getV 2 hC h25 rfl rfl (C := RX3) (T := TX3) (N := 16) rfl inlX3 (by decide) m_277 (Or.inl rfl) dX4_again_33 ?_
  by_cases c26 : (mV M22 r8 2) = (1 : Int32)
  · have h := os_t h c26
    refine go_tabIn (a := (mV M22 r8 2)) (off := 32) (t := 68) hC dX4_again_36 (by rw [c26]; decide +kernel) (by rw [c26]; decide +kernel) (by rw [c26]; decide +kernel) (by decide) ?_
    refine go_aload_n hC dX4_again_68 rfl 1 rfl ?_
    refine go_iconst hC dX4_again_69 (v := (1 : Int32)) (by decide +kernel) ?_
    refine go_aload_n hC dX4_again_70 rfl 0 rfl ?_
    refine go_aload_n hC dX4_again_71 rfl 0 rfl ?_
    obtain ⟨h27, h⟩ := os_1 h
    refine go_getV 10 hC h27 rfl rfl (C := RX3) (T := TX3) (N := 16) rfl inlX3 (by decide) m_471 (Or.inl rfl) dX4_again_72 ?_
    refine go_aload_n hC dX4_again_75 rfl 0 rfl ?_
    obtain ⟨h28, h⟩ := os_1 h
    refine go_getV 11 hC h28 rfl rfl (C := RX3) (T := TX3) (N := 16) rfl inlX3 (by decide) m_526 (Or.inl rfl) dX4_again_76 ?_
    refine go_iconst hC dX4_again_79 (v := (-1 : Int32)) (by decide +kernel) ?_
    refine go_ixor hC dX4_again_80 ?_
    refine go_iand hC dX4_again_81 ?_
    obtain ⟨h32, h⟩ := os_1 h
    obtain ⟨r29, M30, h31, h⟩ := os_c h
    refine go_callV (bytes := cX4_sendToAll) (maxL := 5) (ret := (some .int)) (n := 3) (As := [.int (1 : Int32), .ref r8, .int ((mV M22 r8 10) &&& ((mV M22 r8 11) ^^^ (-1 : Int32)))]) (st := []) hE (c_X4_sendToAll K.2.1 h31) (by unfold okY; decide +kernel) rfl h32 rfl (C := RX4) (T := TX4) (N := 7) rfl m_442 m_439 m_440 m_441 m_2 rfl (by simp [Value.category]) (by decide) (by decide) dX4_again_82 ?_
    refine go_eq (pc' := 85) (st' := [.int r29]) (M' := M30) (lv' := [(2, .ref r8), (0, .ref v0), (1, .int v1)]) ?_ rfl rfl rfl rfl
    cases h
    exact go_iret hE dX4_again_85
  have h := os_f h c26
  by_cases c33 : (mV M22 r8 2) = (2 : Int32)
  · have h := os_t h c33
    refine go_tabIn (a := (mV M22 r8 2)) (off := 50) (t := 86) hC dX4_again_36 (by rw [c33]; decide +kernel) (by rw [c33]; decide +kernel) (by rw [c33]; decide +kernel) (by decide) ?_
    refine go_aload_n hC dX4_again_86 rfl 1 rfl ?_
    refine go_iconst hC dX4_again_87 (v := (5 : Int32)) (by decide +kernel) ?_
    refine go_aload_n hC dX4_again_88 rfl 0 rfl ?_
    refine go_aload_n hC dX4_again_89 rfl 1 rfl ?_
    obtain ⟨h37, h⟩ := os_1 h
    obtain ⟨r34, M35, h36, h⟩ := os_c h
    refine go_callV (bytes := cX4_allSites) (maxL := 1) (ret := (some .int)) (n := 0) (As := []) (st := [.ref r8, .int (5 : Int32), .ref v0]) hE (c_X4_allSites K.2.1 h36) (by unfold okY; decide +kernel) rfl h37 rfl (C := RX4) (T := TX4) (N := 7) rfl m_438 m_435 m_436 m_437 m_2 rfl (by simp [Value.category]) (by decide) (by decide) dX4_again_90 ?_
    refine go_eq (pc' := 93) (st' := [.int r34, .ref r8, .int (5 : Int32), .ref v0]) (M' := M35) (lv' := [(2, .ref r8), (0, .ref v0), (1, .int v1)]) ?_ rfl rfl rfl rfl
    refine go_aload_n hC dX4_again_93 rfl 0 rfl ?_
    obtain ⟨h38, h⟩ := os_1 h
    refine go_getV 12 hC h38 rfl rfl (C := RX3) (T := TX3) (N := 16) rfl inlX3 (by decide) m_423 (Or.inl rfl) dX4_again_94 ?_
    refine go_iconst hC dX4_again_97 (v := (-1 : Int32)) (by decide +kernel) ?_
    refine go_ixor hC dX4_again_98 ?_
    refine go_iand hC dX4_again_99 ?_
    obtain ⟨h42, h⟩ := os_1 h
    obtain ⟨r39, M40, h41, h⟩ := os_c h
    refine go_callV (bytes := cX4_sendToAll) (maxL := 5) (ret := (some .int)) (n := 3) (As := [.int (5 : Int32), .ref r8, .int (r34 &&& ((mV M35 r8 12) ^^^ (-1 : Int32)))]) (st := []) hE (c_X4_sendToAll K.2.1 h41) (by unfold okY; decide +kernel) rfl h42 rfl (C := RX4) (T := TX4) (N := 7) rfl m_442 m_439 m_440 m_441 m_2 rfl (by simp [Value.category]) (by decide) (by decide) dX4_again_100 ?_
    refine go_eq (pc' := 103) (st' := [.int r39]) (M' := M40) (lv' := [(2, .ref r8), (0, .ref v0), (1, .int v1)]) ?_ rfl rfl rfl rfl
    cases h
    exact go_iret hE dX4_again_103
  have h := os_f h c33
  by_cases c43 : (mV M22 r8 2) = (3 : Int32)
  · have h := os_t h c43
    refine go_tabIn (a := (mV M22 r8 2)) (off := 68) (t := 104) hC dX4_again_36 (by rw [c43]; decide +kernel) (by rw [c43]; decide +kernel) (by rw [c43]; decide +kernel) (by decide) ?_
    refine go_aload_n hC dX4_again_104 rfl 1 rfl ?_
    refine go_iconst hC dX4_again_105 (v := (4 : Int32)) (by decide +kernel) ?_
    refine go_aload_n hC dX4_again_106 rfl 0 rfl ?_
    refine go_aload_n hC dX4_again_107 rfl 0 rfl ?_
    obtain ⟨h44, h⟩ := os_1 h
    refine go_getV 10 hC h44 rfl rfl (C := RX3) (T := TX3) (N := 16) rfl inlX3 (by decide) m_471 (Or.inl rfl) dX4_again_108 ?_
    obtain ⟨h48, h⟩ := os_1 h
    obtain ⟨r45, M46, h47, h⟩ := os_c h
    refine go_callV (bytes := cX4_sendToAll) (maxL := 5) (ret := (some .int)) (n := 3) (As := [.int (4 : Int32), .ref r8, .int (mV M22 r8 10)]) (st := []) hE (c_X4_sendToAll K.2.1 h47) (by unfold okY; decide +kernel) rfl h48 rfl (C := RX4) (T := TX4) (N := 7) rfl m_442 m_439 m_440 m_441 m_2 rfl (by simp [Value.category]) (by decide) (by decide) dX4_again_111 ?_
    refine go_eq (pc' := 114) (st' := [.int r45]) (M' := M46) (lv' := [(2, .ref r8), (0, .ref v0), (1, .int v1)]) ?_ rfl rfl rfl rfl
    cases h
    exact go_iret hE dX4_again_114
  have h := os_f h c43
  by_cases c49 : (mV M22 r8 2) = (4 : Int32)
  · have h := os_t h c49
    refine go_tabIn (a := (mV M22 r8 2)) (off := 68) (t := 104) hC dX4_again_36 (by rw [c49]; decide +kernel) (by rw [c49]; decide +kernel) (by rw [c49]; decide +kernel) (by decide) ?_
    refine go_aload_n hC dX4_again_104 rfl 1 rfl ?_
    refine go_iconst hC dX4_again_105 (v := (4 : Int32)) (by decide +kernel) ?_
    refine go_aload_n hC dX4_again_106 rfl 0 rfl ?_
    refine go_aload_n hC dX4_again_107 rfl 0 rfl ?_
    obtain ⟨h50, h⟩ := os_1 h
    refine go_getV 10 hC h50 rfl rfl (C := RX3) (T := TX3) (N := 16) rfl inlX3 (by decide) m_471 (Or.inl rfl) dX4_again_108 ?_
    obtain ⟨h54, h⟩ := os_1 h
    obtain ⟨r51, M52, h53, h⟩ := os_c h
    refine go_callV (bytes := cX4_sendToAll) (maxL := 5) (ret := (some .int)) (n := 3) (As := [.int (4 : Int32), .ref r8, .int (mV M22 r8 10)]) (st := []) hE (c_X4_sendToAll K.2.1 h53) (by unfold okY; decide +kernel) rfl h54 rfl (C := RX4) (T := TX4) (N := 7) rfl m_442 m_439 m_440 m_441 m_2 rfl (by simp [Value.category]) (by decide) (by decide) dX4_again_111 ?_
    refine go_eq (pc' := 114) (st' := [.int r51]) (M' := M52) (lv' := [(2, .ref r8), (0, .ref v0), (1, .int v1)]) ?_ rfl rfl rfl rfl
    cases h
    exact go_iret hE dX4_again_114
  have h := os_f h c49
  refine go_tabOut (a := (mV M22 r8 2)) (t := 115) hC dX4_again_36 (by have z1 := lv_neT c26 (a := 1) (by decide +kernel); have z2 := lv_neT c33 (a := 2) (by decide +kernel); have z3 := lv_neT c43 (a := 3) (by decide +kernel); have z4 := lv_neT c49 (a := 4) (by decide +kernel); omega) (by decide) ?_
  refine go_iconst hC dX4_again_115 (v := (0 : Int32)) (by decide +kernel) ?_
  cases h
  exact go_iret hE dX4_again_116
theorem c_X4_again (l : Launch) {x9 : Cx} {k9 : Nat} {M M9 : Mm} {r9 : Int32} {v0 : Nat} {v1 : Int32} (h : fX4_again x9 k9 v0 v1 M = some (.inr r9, M9)) : Fn l x9 yX4_again cX4_again 3 (some .int) 9 219 [.ref v0, .int v1] M (some (.int r9)) M9 :=
  Fn.of (by decide +kernel) (Nat.le_of_ble_eq_true rfl) rfl (fun K _ hE => tX4_again_0 hE _ _ _ h)
set_option maxRecDepth 100000 in
set_option maxHeartbeats 4000000 in
theorem uX4_again_0 {x9 : Cx} {K : Ct} {k9 : Nat} {M0 M9 : Mm} {c9 : Nat} (hX : CeX x9 K RX4 cX4_again 3 (some .int) 9 219 "again" M0) (v0 : Nat) (v1 : Int32) (M : Mm) (h : fX4_again x9 k9 v0 v1 M = some (.inl c9, M9)) : Go x9 K 3 (QX x9 K M0 c9 M9) 0 [(0, .ref v0), (1, .int v1)] [] M := by
  have hE := hX.1
  have hC := hE.1
  unfold fX4_again at h
  refine go_aload_n hC dX4_again_0 rfl 0 rfl ?_
  refine go_iload_n hC dX4_again_1 rfl 1 rfl ?_
  obtain ⟨h4, h⟩ := os_1 h
  rcases os_TX h with h3 | ⟨r1, M2, h3, h⟩
  · exact go_callVX (bytes := cX4_needTransaction) (maxL := 2) (ret := none) (n := 1) (As := [.int v1]) (st := []) hX (cX_X4_needTransaction K.2.1 hX.2.2 h3) (by unfold okY; decide +kernel) rfl h4 rfl (C := RX4) (T := TX4) (N := 7) rfl m_270 m_267 m_268 m_269 m_2 rfl (by simp [Value.category]) (by decide) (by decide) dX4_again_2
  refine go_callV (bytes := cX4_needTransaction) (maxL := 2) (ret := none) (n := 1) (As := [.int v1]) (st := []) hE (c_X4_needTransaction K.2.1 h3) (by unfold okY; decide +kernel) rfl h4 rfl (C := RX4) (T := TX4) (N := 7) rfl m_270 m_267 m_268 m_269 m_2 rfl (by simp [Value.category]) (by decide) (by decide) dX4_again_2 ?_
  refine go_eq (pc' := 5) (st' := []) (M' := M2) (lv' := [(0, .ref v0), (1, .int v1)]) ?_ rfl rfl rfl rfl
  refine go_aload_n hC dX4_again_5 rfl 0 rfl ?_
  obtain ⟨h5, h⟩ := os_1 h
  obtain ⟨b6, h7, h⟩ := os_b h
  refine go_getR 1 hC h5 rfl rfl h7 (C := RX4) (T := TX4) (N := 7) rfl inlX4 (by decide) m_20 (Or.inl rfl) dX4_again_6 ?_
  refine go_iload_n hC dX4_again_9 rfl 1 rfl ?_
  obtain ⟨h11, h⟩ := os_1 h
  obtain ⟨r8, M9, h10, h⟩ := os_c h
  refine go_callV (bytes := cJx4a65c_get_915e3) (maxL := 2) (ret := (some (.object "java/lang/Object"))) (n := 1) (As := [.int v1]) (st := []) hE (c_Jx4a65c_get_915e3 K.2.1 h10) (by unfold okY; decide +kernel) rfl h11 rfl (C := RJx4a65c) (T := TJx4a65c) (N := 3) rfl m_220 m_217 m_218 m_219 m_19 rfl (by simp [Value.category]) (by decide) (by decide) dX4_again_10 ?_
  refine go_eq (pc' := 13) (st' := [.ref r8]) (M' := M9) (lv' := [(0, .ref v0), (1, .int v1)]) ?_ rfl rfl rfl rfl
  obtain ⟨h12, h⟩ := os_1 h
  refine go_cast hC h12 rfl (C := RX3) (T := TX3) (N := 16) rfl m_145 dX4_again_13 ?_
  refine go_astore_n (lv' := [(2, .ref r8), (0, .ref v0), (1, .int v1)]) hC dX4_again_16 rfl (by decide) rfl ?_
  refine go_aload_n hC dX4_again_17 rfl 1 rfl ?_
  obtain ⟨h13, h⟩ := os_1 h
  obtain ⟨b14, h15, h⟩ := os_b h
  refine go_getR 0 hC h13 rfl rfl h15 (C := RX4) (T := TX4) (N := 7) rfl inlX4 (by decide) m_14 (Or.inl rfl) dX4_again_18 ?_
  refine go_aload_n hC dX4_again_21 rfl 0 rfl ?_
  obtain ⟨h16, h⟩ := os_1 h
  refine go_getV 1 hC h16 rfl rfl (C := RX3) (T := TX3) (N := 16) rfl inlX3 (by decide) m_265 (Or.inl rfl) dX4_again_22 ?_
  obtain ⟨h17, h⟩ := os_1 h
  obtain ⟨b19, h18, h⟩ := os_b h
  refine go_aald hC h17.1 h17.2 h18 dX4_again_25 ?_
  obtain ⟨h20, h⟩ := os_1 h
  refine go_getV 0 hC h20 rfl rfl (C := RX2) (T := TX2) (N := 5) rfl inlX2 (by decide) m_141 (Or.inl rfl) dX4_again_26 ?_
  rcases os_TX h with h23 | ⟨r21, M22, h23, h⟩
  · exact go_callSX (bytes := cX4_needState) (maxL := 1) (ret := none) (n := 1) (As := [.int (mV M9 b19 0)]) (st := []) hX (cX_X4_needState K.2.1 hX.2.2 h23) (by unfold okY; decide +kernel) rfl m_153 m_151 m_152 m_2 rfl (by simp [Value.category]) (by decide) (by decide) dX4_again_29
  refine go_callS (bytes := cX4_needState) (maxL := 1) (ret := none) (n := 1) (As := [.int (mV M9 b19 0)]) (st := []) hE (c_X4_needState K.2.1 h23) (by unfold okY; decide +kernel) rfl m_153 m_151 m_152 m_2 rfl (by simp [Value.category]) (by decide) (by decide) dX4_again_29 ?_
  refine go_eq (pc' := 32) (st' := []) (M' := M22) (lv' := [(2, .ref r8), (0, .ref v0), (1, .int v1)]) ?_ rfl rfl rfl rfl
  refine go_aload_n hC dX4_again_32 rfl 0 rfl ?_
  obtain ⟨h25, h⟩ := os_1 h
  refine go_getV 2 hC h25 rfl rfl (C := RX3) (T := TX3) (N := 16) rfl inlX3 (by decide) m_277 (Or.inl rfl) dX4_again_33 ?_
  by_cases c26 : (mV M22 r8 2) = (1 : Int32)
  · have h := os_t h c26
    refine go_tabIn (a := (mV M22 r8 2)) (off := 32) (t := 68) hC dX4_again_36 (by rw [c26]; decide +kernel) (by rw [c26]; decide +kernel) (by rw [c26]; decide +kernel) (by decide) ?_
    refine go_aload_n hC dX4_again_68 rfl 1 rfl ?_
    refine go_iconst hC dX4_again_69 (v := (1 : Int32)) (by decide +kernel) ?_
    refine go_aload_n hC dX4_again_70 rfl 0 rfl ?_
    refine go_aload_n hC dX4_again_71 rfl 0 rfl ?_
    obtain ⟨h27, h⟩ := os_1 h
    refine go_getV 10 hC h27 rfl rfl (C := RX3) (T := TX3) (N := 16) rfl inlX3 (by decide) m_471 (Or.inl rfl) dX4_again_72 ?_
    refine go_aload_n hC dX4_again_75 rfl 0 rfl ?_
    obtain ⟨h28, h⟩ := os_1 h
    refine go_getV 11 hC h28 rfl rfl (C := RX3) (T := TX3) (N := 16) rfl inlX3 (by decide) m_526 (Or.inl rfl) dX4_again_76 ?_
    refine go_iconst hC dX4_again_79 (v := (-1 : Int32)) (by decide +kernel) ?_
    refine go_ixor hC dX4_again_80 ?_
    refine go_iand hC dX4_again_81 ?_
    obtain ⟨h32, h⟩ := os_1 h
    obtain ⟨r29, M30, h31, h⟩ := os_c h
    refine go_callV (bytes := cX4_sendToAll) (maxL := 5) (ret := (some .int)) (n := 3) (As := [.int (1 : Int32), .ref r8, .int ((mV M22 r8 10) &&& ((mV M22 r8 11) ^^^ (-1 : Int32)))]) (st := []) hE (c_X4_sendToAll K.2.1 h31) (by unfold okY; decide +kernel) rfl h32 rfl (C := RX4) (T := TX4) (N := 7) rfl m_442 m_439 m_440 m_441 m_2 rfl (by simp [Value.category]) (by decide) (by decide) dX4_again_82 ?_
    refine go_eq (pc' := 85) (st' := [.int r29]) (M' := M30) (lv' := [(2, .ref r8), (0, .ref v0), (1, .int v1)]) ?_ rfl rfl rfl rfl
    cases h
  have h := os_f h c26
  by_cases c33 : (mV M22 r8 2) = (2 : Int32)
  · have h := os_t h c33
    refine go_tabIn (a := (mV M22 r8 2)) (off := 50) (t := 86) hC dX4_again_36 (by rw [c33]; decide +kernel) (by rw [c33]; decide +kernel) (by rw [c33]; decide +kernel) (by decide) ?_
    refine go_aload_n hC dX4_again_86 rfl 1 rfl ?_
    refine go_iconst hC dX4_again_87 (v := (5 : Int32)) (by decide +kernel) ?_
    refine go_aload_n hC dX4_again_88 rfl 0 rfl ?_
    refine go_aload_n hC dX4_again_89 rfl 1 rfl ?_
    obtain ⟨h37, h⟩ := os_1 h
    obtain ⟨r34, M35, h36, h⟩ := os_c h
    refine go_callV (bytes := cX4_allSites) (maxL := 1) (ret := (some .int)) (n := 0) (As := []) (st := [.ref r8, .int (5 : Int32), .ref v0]) hE (c_X4_allSites K.2.1 h36) (by unfold okY; decide +kernel) rfl h37 rfl (C := RX4) (T := TX4) (N := 7) rfl m_438 m_435 m_436 m_437 m_2 rfl (by simp [Value.category]) (by decide) (by decide) dX4_again_90 ?_
    refine go_eq (pc' := 93) (st' := [.int r34, .ref r8, .int (5 : Int32), .ref v0]) (M' := M35) (lv' := [(2, .ref r8), (0, .ref v0), (1, .int v1)]) ?_ rfl rfl rfl rfl
    refine go_aload_n hC dX4_again_93 rfl 0 rfl ?_
    obtain ⟨h38, h⟩ := os_1 h
    refine go_getV 12 hC h38 rfl rfl (C := RX3) (T := TX3) (N := 16) rfl inlX3 (by decide) m_423 (Or.inl rfl) dX4_again_94 ?_
    refine go_iconst hC dX4_again_97 (v := (-1 : Int32)) (by decide +kernel) ?_
    refine go_ixor hC dX4_again_98 ?_
    refine go_iand hC dX4_again_99 ?_
    obtain ⟨h42, h⟩ := os_1 h
    obtain ⟨r39, M40, h41, h⟩ := os_c h
    refine go_callV (bytes := cX4_sendToAll) (maxL := 5) (ret := (some .int)) (n := 3) (As := [.int (5 : Int32), .ref r8, .int (r34 &&& ((mV M35 r8 12) ^^^ (-1 : Int32)))]) (st := []) hE (c_X4_sendToAll K.2.1 h41) (by unfold okY; decide +kernel) rfl h42 rfl (C := RX4) (T := TX4) (N := 7) rfl m_442 m_439 m_440 m_441 m_2 rfl (by simp [Value.category]) (by decide) (by decide) dX4_again_100 ?_
    refine go_eq (pc' := 103) (st' := [.int r39]) (M' := M40) (lv' := [(2, .ref r8), (0, .ref v0), (1, .int v1)]) ?_ rfl rfl rfl rfl
    cases h
  have h := os_f h c33
  by_cases c43 : (mV M22 r8 2) = (3 : Int32)
  · have h := os_t h c43
    refine go_tabIn (a := (mV M22 r8 2)) (off := 68) (t := 104) hC dX4_again_36 (by rw [c43]; decide +kernel) (by rw [c43]; decide +kernel) (by rw [c43]; decide +kernel) (by decide) ?_
    refine go_aload_n hC dX4_again_104 rfl 1 rfl ?_
    refine go_iconst hC dX4_again_105 (v := (4 : Int32)) (by decide +kernel) ?_
    refine go_aload_n hC dX4_again_106 rfl 0 rfl ?_
    refine go_aload_n hC dX4_again_107 rfl 0 rfl ?_
    obtain ⟨h44, h⟩ := os_1 h
    refine go_getV 10 hC h44 rfl rfl (C := RX3) (T := TX3) (N := 16) rfl inlX3 (by decide) m_471 (Or.inl rfl) dX4_again_108 ?_
    obtain ⟨h48, h⟩ := os_1 h
    obtain ⟨r45, M46, h47, h⟩ := os_c h
    refine go_callV (bytes := cX4_sendToAll) (maxL := 5) (ret := (some .int)) (n := 3) (As := [.int (4 : Int32), .ref r8, .int (mV M22 r8 10)]) (st := []) hE (c_X4_sendToAll K.2.1 h47) (by unfold okY; decide +kernel) rfl h48 rfl (C := RX4) (T := TX4) (N := 7) rfl m_442 m_439 m_440 m_441 m_2 rfl (by simp [Value.category]) (by decide) (by decide) dX4_again_111 ?_
    refine go_eq (pc' := 114) (st' := [.int r45]) (M' := M46) (lv' := [(2, .ref r8), (0, .ref v0), (1, .int v1)]) ?_ rfl rfl rfl rfl
    cases h
  have h := os_f h c43
  by_cases c49 : (mV M22 r8 2) = (4 : Int32)
  · have h := os_t h c49
    refine go_tabIn (a := (mV M22 r8 2)) (off := 68) (t := 104) hC dX4_again_36 (by rw [c49]; decide +kernel) (by rw [c49]; decide +kernel) (by rw [c49]; decide +kernel) (by decide) ?_
    refine go_aload_n hC dX4_again_104 rfl 1 rfl ?_
    refine go_iconst hC dX4_again_105 (v := (4 : Int32)) (by decide +kernel) ?_
    refine go_aload_n hC dX4_again_106 rfl 0 rfl ?_
    refine go_aload_n hC dX4_again_107 rfl 0 rfl ?_
    obtain ⟨h50, h⟩ := os_1 h
    refine go_getV 10 hC h50 rfl rfl (C := RX3) (T := TX3) (N := 16) rfl inlX3 (by decide) m_471 (Or.inl rfl) dX4_again_108 ?_
    obtain ⟨h54, h⟩ := os_1 h
    obtain ⟨r51, M52, h53, h⟩ := os_c h
    refine go_callV (bytes := cX4_sendToAll) (maxL := 5) (ret := (some .int)) (n := 3) (As := [.int (4 : Int32), .ref r8, .int (mV M22 r8 10)]) (st := []) hE (c_X4_sendToAll K.2.1 h53) (by unfold okY; decide +kernel) rfl h54 rfl (C := RX4) (T := TX4) (N := 7) rfl m_442 m_439 m_440 m_441 m_2 rfl (by simp [Value.category]) (by decide) (by decide) dX4_again_111 ?_
    refine go_eq (pc' := 114) (st' := [.int r51]) (M' := M52) (lv' := [(2, .ref r8), (0, .ref v0), (1, .int v1)]) ?_ rfl rfl rfl rfl
    cases h
  have h := os_f h c49
  refine go_tabOut (a := (mV M22 r8 2)) (t := 115) hC dX4_again_36 (by have z1 := lv_neT c26 (a := 1) (by decide +kernel); have z2 := lv_neT c33 (a := 2) (by decide +kernel); have z3 := lv_neT c43 (a := 3) (by decide +kernel); have z4 := lv_neT c49 (a := 4) (by decide +kernel); omega) (by decide) ?_
  refine go_iconst hC dX4_again_115 (v := (0 : Int32)) (by decide +kernel) ?_
  cases h
theorem cX_X4_again (l : Launch) (hl : l.stackTraces = false) {x9 : Cx} {k9 : Nat} {M M9 : Mm} {c9 : Nat} {v0 : Nat} {v1 : Int32} (h : fX4_again x9 k9 v0 v1 M = some (.inl c9, M9)) : FnX l x9 yX4_again cX4_again 3 (some .int) 9 219 [.ref v0, .int v1] M c9 M9 :=
  FnX.of hl (by decide +kernel) (Nat.le_of_ble_eq_true rfl) rfl (fun K _ hX => uX4_again_0 hX _ _ _ h)
/-! X4_deliver -/
def fX4_deliver (x9 : Cx) (k9 : Nat) (v0 : Nat) (v1 : Int32) (M : Mm) : Option ((Nat ⊕ Int32) × Mm) :=
  if mK M v0 = 5 then obT (fX4_needLetter x9 k9 v0 v1 M) (fun r1 M2 => if mK M2 v0 = 5 then ob1 (mP M2 v0 2) (fun b6 => if mK M2 b6 = 7 then ob2 (fJx4a65c_remove_915e3 x9 k9 b6 v1 M2) (fun r8 M9 => if mK M9 r8 = 2 then if mK M9 v0 = 5 then ob1 (mP M9 v0 0) (fun b14 => if mK M9 r8 = 2 then ob2 (fX1_to x9 k9 r8 M9) (fun r16 M17 => if (mK M17 b14 = 10 ∨ mK M17 b14 = 11) ∧ ¬ (r16 < 0 ∨ mN M17 b14 ≤ (r16).toNatClampNeg) then ob1 (mP M17 b14 (r16).toNatClampNeg) (fun b22 => if mK M17 b22 = 3 then if (mV M17 b22 0) = 0 then some (.inr (0 : Int32), M17) else if mK M17 v0 = 5 then ob1 (mP M17 v0 1) (fun b26 => if mK M17 r8 = 2 then ob2 (fX1_transaction x9 k9 r8 M17) (fun r28 M29 => if mK M29 b26 = 7 then ob2 (fJx4a65c_get_915e3 x9 k9 b26 r28 M29) (fun r32 M33 => if mK M33 r32 = 4 then if mK M33 v0 = 5 then ob2 (fX4_handOver x9 k9 v0 r8 r32 M33) (fun r37 M38 => some (.inr r37, M38)) else none else none) else none) else none) else none else none) else none) else none) else none else none) else none) else none) else none
set_option maxRecDepth 100000 in
set_option maxHeartbeats 4000000 in
theorem tX4_deliver_0 {x9 : Cx} {K : Ct} {k9 : Nat} {M0 M9 : Mm} {r9 : Int32} (hE : Ce x9 K RX4 cX4_deliver 3 (some .int) 12 284 "deliver" M0) (v0 : Nat) (v1 : Int32) (M : Mm) (h : fX4_deliver x9 k9 v0 v1 M = some (.inr r9, M9)) : Go x9 K 3 (Qf x9 K M0 (some (.int r9)) M9) 0 [(0, .ref v0), (1, .int v1)] [] M := by
  have hC := hE.1
  have hnm := hE.2.2.2.2.2.2.2.1
  unfold fX4_deliver at h
  refine go_aload_n hC dX4_deliver_0 rfl 0 rfl ?_
  refine go_iload_n hC dX4_deliver_1 rfl 1 rfl ?_
  obtain ⟨h4, h⟩ := os_1 h
  obtain ⟨r1, M2, h3, h⟩ := os_TR h
  refine go_callV (bytes := cX4_needLetter) (maxL := 2) (ret := none) (n := 1) (As := [.int v1]) (st := []) hE (c_X4_needLetter K.2.1 h3) (by unfold okY; decide +kernel) rfl h4 rfl (C := RX4) (T := TX4) (N := 7) rfl m_542 m_539 m_540 m_541 m_2 rfl (by simp [Value.category]) (by decide) (by decide) dX4_deliver_2 ?_
  refine go_eq (pc' := 5) (st' := []) (M' := M2) (lv' := [(0, .ref v0), (1, .int v1)]) ?_ rfl rfl rfl rfl
  refine go_aload_n hC dX4_deliver_5 rfl 0 rfl ?_
  obtain ⟨h5, h⟩ := os_1 h
  obtain ⟨b6, h7, h⟩ := os_b h
  refine go_getR 2 hC h5 rfl rfl h7 (C := RX4) (T := TX4) (N := 7) rfl inlX4 (by decide) m_21 (Or.inl rfl) dX4_deliver_6 ?_
  refine go_iload_n hC dX4_deliver_9 rfl 1 rfl ?_
  obtain ⟨h11, h⟩ := os_1 h
  obtain ⟨r8, M9, h10, h⟩ := os_c h
  refine go_callV (bytes := cJx4a65c_remove_915e3) (maxL := 4) (ret := (some (.object "java/lang/Object"))) (n := 1) (As := [.int v1]) (st := []) hE (c_Jx4a65c_remove_915e3 K.2.1 h10) (by unfold okY; decide +kernel) rfl h11 rfl (C := RJx4a65c) (T := TJx4a65c) (N := 3) rfl m_546 m_543 m_544 m_545 m_19 rfl (by simp [Value.category]) (by decide) (by decide) dX4_deliver_10 ?_
  refine go_eq (pc' := 13) (st' := [.ref r8]) (M' := M9) (lv' := [(0, .ref v0), (1, .int v1)]) ?_ rfl rfl rfl rfl
  obtain ⟨h12, h⟩ := os_1 h
  refine go_cast hC h12 rfl (C := RX1) (T := TX1) (N := 4) rfl m_538 dX4_deliver_13 ?_
  refine go_astore_n (lv' := [(2, .ref r8), (0, .ref v0), (1, .int v1)]) hC dX4_deliver_16 rfl (by decide) rfl ?_
  refine go_aload_n hC dX4_deliver_17 rfl 1 rfl ?_
  obtain ⟨h13, h⟩ := os_1 h
  obtain ⟨b14, h15, h⟩ := os_b h
  refine go_getR 0 hC h13 rfl rfl h15 (C := RX4) (T := TX4) (N := 7) rfl inlX4 (by decide) m_14 (Or.inl rfl) dX4_deliver_18 ?_
  refine go_aload_n hC dX4_deliver_21 rfl 0 rfl ?_
  obtain ⟨h19, h⟩ := os_1 h
  obtain ⟨r16, M17, h18, h⟩ := os_c h
  refine go_callV (bytes := cX1_to) (maxL := 1) (ret := (some .int)) (n := 0) (As := []) (st := [.ref b14]) hE (c_X1_to K.2.1 h18) (by unfold okY; decide +kernel) rfl h19 rfl (C := RX1) (T := TX1) (N := 4) rfl m_555 m_552 m_553 m_554 m_450 rfl (by simp [Value.category]) (by decide) (by decide) dX4_deliver_22 ?_
  refine go_eq (pc' := 25) (st' := [.int r16, .ref b14]) (M' := M17) (lv' := [(2, .ref r8), (0, .ref v0), (1, .int v1)]) ?_ rfl rfl rfl rfl
  obtain ⟨h20, h⟩ := os_1 h
  obtain ⟨b22, h21, h⟩ := os_b h
  refine go_aald hC h20.1 h20.2 h21 dX4_deliver_25 ?_
  obtain ⟨h23, h⟩ := os_1 h
  refine go_getV 0 hC h23 rfl rfl (C := RX2) (T := TX2) (N := 5) rfl inlX2 (by decide) m_141 (Or.inl rfl) dX4_deliver_26 ?_
  refine go_if_ne (t := 34) hC dX4_deliver_29 (by decide) (fun c24 => ?_) (fun c24 => ?_)
  · have h := os_f h c24
    refine go_aload_n hC dX4_deliver_34 rfl 1 rfl ?_
    refine go_aload_n hC dX4_deliver_35 rfl 0 rfl ?_
    refine go_aload_n hC dX4_deliver_36 rfl 1 rfl ?_
    obtain ⟨h25, h⟩ := os_1 h
    obtain ⟨b26, h27, h⟩ := os_b h
    refine go_getR 1 hC h25 rfl rfl h27 (C := RX4) (T := TX4) (N := 7) rfl inlX4 (by decide) m_20 (Or.inl rfl) dX4_deliver_37 ?_
    refine go_aload_n hC dX4_deliver_40 rfl 0 rfl ?_
    obtain ⟨h31, h⟩ := os_1 h
    obtain ⟨r28, M29, h30, h⟩ := os_c h
    refine go_callV (bytes := cX1_transaction) (maxL := 1) (ret := (some .int)) (n := 0) (As := []) (st := [.ref b26, .ref r8, .ref v0]) hE (c_X1_transaction K.2.1 h30) (by unfold okY; decide +kernel) rfl h31 rfl (C := RX1) (T := TX1) (N := 4) rfl m_559 m_556 m_557 m_558 m_450 rfl (by simp [Value.category]) (by decide) (by decide) dX4_deliver_41 ?_
    refine go_eq (pc' := 44) (st' := [.int r28, .ref b26, .ref r8, .ref v0]) (M' := M29) (lv' := [(2, .ref r8), (0, .ref v0), (1, .int v1)]) ?_ rfl rfl rfl rfl
    obtain ⟨h35, h⟩ := os_1 h
    obtain ⟨r32, M33, h34, h⟩ := os_c h
    refine go_callV (bytes := cJx4a65c_get_915e3) (maxL := 2) (ret := (some (.object "java/lang/Object"))) (n := 1) (As := [.int r28]) (st := [.ref r8, .ref v0]) hE (c_Jx4a65c_get_915e3 K.2.1 h34) (by unfold okY; decide +kernel) rfl h35 rfl (C := RJx4a65c) (T := TJx4a65c) (N := 3) rfl m_220 m_217 m_218 m_219 m_19 rfl (by simp [Value.category]) (by decide) (by decide) dX4_deliver_44 ?_
    refine go_eq (pc' := 47) (st' := [.ref r32, .ref r8, .ref v0]) (M' := M33) (lv' := [(2, .ref r8), (0, .ref v0), (1, .int v1)]) ?_ rfl rfl rfl rfl
    obtain ⟨h36, h⟩ := os_1 h
    refine go_cast hC h36 rfl (C := RX3) (T := TX3) (N := 16) rfl m_145 dX4_deliver_47 ?_
    obtain ⟨h40, h⟩ := os_1 h
    obtain ⟨r37, M38, h39, h⟩ := os_c h
    refine go_callV (bytes := cX4_handOver) (maxL := 3) (ret := (some .int)) (n := 2) (As := [.ref r8, .ref r32]) (st := []) hE (c_X4_handOver K.2.1 h39) (by unfold okY; decide +kernel) rfl h40 rfl (C := RX4) (T := TX4) (N := 7) rfl m_563 m_560 m_561 m_562 m_2 rfl (by simp [Value.category]) (by decide) (by decide) dX4_deliver_50 ?_
    refine go_eq (pc' := 53) (st' := [.int r37]) (M' := M38) (lv' := [(2, .ref r8), (0, .ref v0), (1, .int v1)]) ?_ rfl rfl rfl rfl
    cases h
    exact go_iret hE dX4_deliver_53
  · have h := os_t h c24
    refine go_iconst hC dX4_deliver_32 (v := (0 : Int32)) (by decide +kernel) ?_
    cases h
    exact go_iret hE dX4_deliver_33
theorem c_X4_deliver (l : Launch) {x9 : Cx} {k9 : Nat} {M M9 : Mm} {r9 : Int32} {v0 : Nat} {v1 : Int32} (h : fX4_deliver x9 k9 v0 v1 M = some (.inr r9, M9)) : Fn l x9 yX4_deliver cX4_deliver 3 (some .int) 12 284 [.ref v0, .int v1] M (some (.int r9)) M9 :=
  Fn.of (by decide +kernel) (Nat.le_of_ble_eq_true rfl) rfl (fun K _ hE => tX4_deliver_0 hE _ _ _ h)
set_option maxRecDepth 100000 in
set_option maxHeartbeats 4000000 in
theorem uX4_deliver_0 {x9 : Cx} {K : Ct} {k9 : Nat} {M0 M9 : Mm} {c9 : Nat} (hX : CeX x9 K RX4 cX4_deliver 3 (some .int) 12 284 "deliver" M0) (v0 : Nat) (v1 : Int32) (M : Mm) (h : fX4_deliver x9 k9 v0 v1 M = some (.inl c9, M9)) : Go x9 K 3 (QX x9 K M0 c9 M9) 0 [(0, .ref v0), (1, .int v1)] [] M := by
  have hE := hX.1
  have hC := hE.1
  unfold fX4_deliver at h
  refine go_aload_n hC dX4_deliver_0 rfl 0 rfl ?_
  refine go_iload_n hC dX4_deliver_1 rfl 1 rfl ?_
  obtain ⟨h4, h⟩ := os_1 h
  rcases os_TX h with h3 | ⟨r1, M2, h3, h⟩
  · exact go_callVX (bytes := cX4_needLetter) (maxL := 2) (ret := none) (n := 1) (As := [.int v1]) (st := []) hX (cX_X4_needLetter K.2.1 hX.2.2 h3) (by unfold okY; decide +kernel) rfl h4 rfl (C := RX4) (T := TX4) (N := 7) rfl m_542 m_539 m_540 m_541 m_2 rfl (by simp [Value.category]) (by decide) (by decide) dX4_deliver_2
  refine go_callV (bytes := cX4_needLetter) (maxL := 2) (ret := none) (n := 1) (As := [.int v1]) (st := []) hE (c_X4_needLetter K.2.1 h3) (by unfold okY; decide +kernel) rfl h4 rfl (C := RX4) (T := TX4) (N := 7) rfl m_542 m_539 m_540 m_541 m_2 rfl (by simp [Value.category]) (by decide) (by decide) dX4_deliver_2 ?_
  refine go_eq (pc' := 5) (st' := []) (M' := M2) (lv' := [(0, .ref v0), (1, .int v1)]) ?_ rfl rfl rfl rfl
  refine go_aload_n hC dX4_deliver_5 rfl 0 rfl ?_
  obtain ⟨h5, h⟩ := os_1 h
  obtain ⟨b6, h7, h⟩ := os_b h
  refine go_getR 2 hC h5 rfl rfl h7 (C := RX4) (T := TX4) (N := 7) rfl inlX4 (by decide) m_21 (Or.inl rfl) dX4_deliver_6 ?_
  refine go_iload_n hC dX4_deliver_9 rfl 1 rfl ?_
  obtain ⟨h11, h⟩ := os_1 h
  obtain ⟨r8, M9, h10, h⟩ := os_c h
  refine go_callV (bytes := cJx4a65c_remove_915e3) (maxL := 4) (ret := (some (.object "java/lang/Object"))) (n := 1) (As := [.int v1]) (st := []) hE (c_Jx4a65c_remove_915e3 K.2.1 h10) (by unfold okY; decide +kernel) rfl h11 rfl (C := RJx4a65c) (T := TJx4a65c) (N := 3) rfl m_546 m_543 m_544 m_545 m_19 rfl (by simp [Value.category]) (by decide) (by decide) dX4_deliver_10 ?_
  refine go_eq (pc' := 13) (st' := [.ref r8]) (M' := M9) (lv' := [(0, .ref v0), (1, .int v1)]) ?_ rfl rfl rfl rfl
  obtain ⟨h12, h⟩ := os_1 h
  refine go_cast hC h12 rfl (C := RX1) (T := TX1) (N := 4) rfl m_538 dX4_deliver_13 ?_
  refine go_astore_n (lv' := [(2, .ref r8), (0, .ref v0), (1, .int v1)]) hC dX4_deliver_16 rfl (by decide) rfl ?_
  refine go_aload_n hC dX4_deliver_17 rfl 1 rfl ?_
  obtain ⟨h13, h⟩ := os_1 h
  obtain ⟨b14, h15, h⟩ := os_b h
  refine go_getR 0 hC h13 rfl rfl h15 (C := RX4) (T := TX4) (N := 7) rfl inlX4 (by decide) m_14 (Or.inl rfl) dX4_deliver_18 ?_
  refine go_aload_n hC dX4_deliver_21 rfl 0 rfl ?_
  obtain ⟨h19, h⟩ := os_1 h
  obtain ⟨r16, M17, h18, h⟩ := os_c h
  refine go_callV (bytes := cX1_to) (maxL := 1) (ret := (some .int)) (n := 0) (As := []) (st := [.ref b14]) hE (c_X1_to K.2.1 h18) (by unfold okY; decide +kernel) rfl h19 rfl (C := RX1) (T := TX1) (N := 4) rfl m_555 m_552 m_553 m_554 m_450 rfl (by simp [Value.category]) (by decide) (by decide) dX4_deliver_22 ?_
  refine go_eq (pc' := 25) (st' := [.int r16, .ref b14]) (M' := M17) (lv' := [(2, .ref r8), (0, .ref v0), (1, .int v1)]) ?_ rfl rfl rfl rfl
  obtain ⟨h20, h⟩ := os_1 h
  obtain ⟨b22, h21, h⟩ := os_b h
  refine go_aald hC h20.1 h20.2 h21 dX4_deliver_25 ?_
  obtain ⟨h23, h⟩ := os_1 h
  refine go_getV 0 hC h23 rfl rfl (C := RX2) (T := TX2) (N := 5) rfl inlX2 (by decide) m_141 (Or.inl rfl) dX4_deliver_26 ?_
  refine go_if_ne (t := 34) hC dX4_deliver_29 (by decide) (fun c24 => ?_) (fun c24 => ?_)
  · have h := os_f h c24
    refine go_aload_n hC dX4_deliver_34 rfl 1 rfl ?_
    refine go_aload_n hC dX4_deliver_35 rfl 0 rfl ?_
    refine go_aload_n hC dX4_deliver_36 rfl 1 rfl ?_
    obtain ⟨h25, h⟩ := os_1 h
    obtain ⟨b26, h27, h⟩ := os_b h
    refine go_getR 1 hC h25 rfl rfl h27 (C := RX4) (T := TX4) (N := 7) rfl inlX4 (by decide) m_20 (Or.inl rfl) dX4_deliver_37 ?_
    refine go_aload_n hC dX4_deliver_40 rfl 0 rfl ?_
    obtain ⟨h31, h⟩ := os_1 h
    obtain ⟨r28, M29, h30, h⟩ := os_c h
    refine go_callV (bytes := cX1_transaction) (maxL := 1) (ret := (some .int)) (n := 0) (As := []) (st := [.ref b26, .ref r8, .ref v0]) hE (c_X1_transaction K.2.1 h30) (by unfold okY; decide +kernel) rfl h31 rfl (C := RX1) (T := TX1) (N := 4) rfl m_559 m_556 m_557 m_558 m_450 rfl (by simp [Value.category]) (by decide) (by decide) dX4_deliver_41 ?_
    refine go_eq (pc' := 44) (st' := [.int r28, .ref b26, .ref r8, .ref v0]) (M' := M29) (lv' := [(2, .ref r8), (0, .ref v0), (1, .int v1)]) ?_ rfl rfl rfl rfl
    obtain ⟨h35, h⟩ := os_1 h
    obtain ⟨r32, M33, h34, h⟩ := os_c h
    refine go_callV (bytes := cJx4a65c_get_915e3) (maxL := 2) (ret := (some (.object "java/lang/Object"))) (n := 1) (As := [.int r28]) (st := [.ref r8, .ref v0]) hE (c_Jx4a65c_get_915e3 K.2.1 h34) (by unfold okY; decide +kernel) rfl h35 rfl (C := RJx4a65c) (T := TJx4a65c) (N := 3) rfl m_220 m_217 m_218 m_219 m_19 rfl (by simp [Value.category]) (by decide) (by decide) dX4_deliver_44 ?_
    refine go_eq (pc' := 47) (st' := [.ref r32, .ref r8, .ref v0]) (M' := M33) (lv' := [(2, .ref r8), (0, .ref v0), (1, .int v1)]) ?_ rfl rfl rfl rfl
    obtain ⟨h36, h⟩ := os_1 h
    refine go_cast hC h36 rfl (C := RX3) (T := TX3) (N := 16) rfl m_145 dX4_deliver_47 ?_
    obtain ⟨h40, h⟩ := os_1 h
    obtain ⟨r37, M38, h39, h⟩ := os_c h
    refine go_callV (bytes := cX4_handOver) (maxL := 3) (ret := (some .int)) (n := 2) (As := [.ref r8, .ref r32]) (st := []) hE (c_X4_handOver K.2.1 h39) (by unfold okY; decide +kernel) rfl h40 rfl (C := RX4) (T := TX4) (N := 7) rfl m_563 m_560 m_561 m_562 m_2 rfl (by simp [Value.category]) (by decide) (by decide) dX4_deliver_50 ?_
    refine go_eq (pc' := 53) (st' := [.int r37]) (M' := M38) (lv' := [(2, .ref r8), (0, .ref v0), (1, .int v1)]) ?_ rfl rfl rfl rfl
    cases h
  · have h := os_t h c24
    refine go_iconst hC dX4_deliver_32 (v := (0 : Int32)) (by decide +kernel) ?_
    cases h
theorem cX_X4_deliver (l : Launch) (hl : l.stackTraces = false) {x9 : Cx} {k9 : Nat} {M M9 : Mm} {c9 : Nat} {v0 : Nat} {v1 : Int32} (h : fX4_deliver x9 k9 v0 v1 M = some (.inl c9, M9)) : FnX l x9 yX4_deliver cX4_deliver 3 (some .int) 12 284 [.ref v0, .int v1] M c9 M9 :=
  FnX.of hl (by decide +kernel) (Nat.le_of_ble_eq_true rfl) rfl (fun K _ hX => uX4_deliver_0 hX _ _ _ h)
/-! X4_drop -/
def fX4_drop (x9 : Cx) (k9 : Nat) (v0 : Nat) (v1 : Int32) (M : Mm) : Option ((Nat ⊕ Int32) × Mm) :=
  if mK M v0 = 5 then obT (fX4_needLetter x9 k9 v0 v1 M) (fun r1 M2 => if mK M2 v0 = 5 then ob1 (mP M2 v0 2) (fun b6 => if mK M2 b6 = 7 then ob2 (fJx4a65c_remove_915e3 x9 k9 b6 v1 M2) (fun r8 M9 => if mK M9 r8 = 2 then if mK M9 r8 = 2 then ob2 (fX1_kind x9 k9 r8 M9) (fun r13 M14 => some (.inr r13, M14)) else none else none) else none) else none) else none
set_option maxRecDepth 100000 in
set_option maxHeartbeats 4000000 in
theorem tX4_drop_0 {x9 : Cx} {K : Ct} {k9 : Nat} {M0 M9 : Mm} {r9 : Int32} (hE : Ce x9 K RX4 cX4_drop 2 (some .int) 8 131 "drop" M0) (v0 : Nat) (v1 : Int32) (M : Mm) (h : fX4_drop x9 k9 v0 v1 M = some (.inr r9, M9)) : Go x9 K 2 (Qf x9 K M0 (some (.int r9)) M9) 0 [(0, .ref v0), (1, .int v1)] [] M := by
  have hC := hE.1
  have hnm := hE.2.2.2.2.2.2.2.1
  unfold fX4_drop at h
  refine go_aload_n hC dX4_drop_0 rfl 0 rfl ?_
  refine go_iload_n hC dX4_drop_1 rfl 1 rfl ?_
  obtain ⟨h4, h⟩ := os_1 h
  obtain ⟨r1, M2, h3, h⟩ := os_TR h
  refine go_callV (bytes := cX4_needLetter) (maxL := 2) (ret := none) (n := 1) (As := [.int v1]) (st := []) hE (c_X4_needLetter K.2.1 h3) (by unfold okY; decide +kernel) rfl h4 rfl (C := RX4) (T := TX4) (N := 7) rfl m_542 m_539 m_540 m_541 m_2 rfl (by simp [Value.category]) (by decide) (by decide) dX4_drop_2 ?_
  refine go_eq (pc' := 5) (st' := []) (M' := M2) (lv' := [(0, .ref v0), (1, .int v1)]) ?_ rfl rfl rfl rfl
  refine go_aload_n hC dX4_drop_5 rfl 0 rfl ?_
  obtain ⟨h5, h⟩ := os_1 h
  obtain ⟨b6, h7, h⟩ := os_b h
  refine go_getR 2 hC h5 rfl rfl h7 (C := RX4) (T := TX4) (N := 7) rfl inlX4 (by decide) m_21 (Or.inl rfl) dX4_drop_6 ?_
  refine go_iload_n hC dX4_drop_9 rfl 1 rfl ?_
  obtain ⟨h11, h⟩ := os_1 h
  obtain ⟨r8, M9, h10, h⟩ := os_c h
  refine go_callV (bytes := cJx4a65c_remove_915e3) (maxL := 4) (ret := (some (.object "java/lang/Object"))) (n := 1) (As := [.int v1]) (st := []) hE (c_Jx4a65c_remove_915e3 K.2.1 h10) (by unfold okY; decide +kernel) rfl h11 rfl (C := RJx4a65c) (T := TJx4a65c) (N := 3) rfl m_546 m_543 m_544 m_545 m_19 rfl (by simp [Value.category]) (by decide) (by decide) dX4_drop_10 ?_
  refine go_eq (pc' := 13) (st' := [.ref r8]) (M' := M9) (lv' := [(0, .ref v0), (1, .int v1)]) ?_ rfl rfl rfl rfl
  obtain ⟨h12, h⟩ := os_1 h
  refine go_cast hC h12 rfl (C := RX1) (T := TX1) (N := 4) rfl m_538 dX4_drop_13 ?_
  obtain ⟨h16, h⟩ := os_1 h
  obtain ⟨r13, M14, h15, h⟩ := os_c h
  refine go_callV (bytes := cX1_kind) (maxL := 1) (ret := (some .int)) (n := 0) (As := []) (st := []) hE (c_X1_kind K.2.1 h15) (by unfold okY; decide +kernel) rfl h16 rfl (C := RX1) (T := TX1) (N := 4) rfl m_567 m_564 m_565 m_566 m_450 rfl (by simp [Value.category]) (by decide) (by decide) dX4_drop_16 ?_
  refine go_eq (pc' := 19) (st' := [.int r13]) (M' := M14) (lv' := [(0, .ref v0), (1, .int v1)]) ?_ rfl rfl rfl rfl
  cases h
  exact go_iret hE dX4_drop_19
theorem c_X4_drop (l : Launch) {x9 : Cx} {k9 : Nat} {M M9 : Mm} {r9 : Int32} {v0 : Nat} {v1 : Int32} (h : fX4_drop x9 k9 v0 v1 M = some (.inr r9, M9)) : Fn l x9 yX4_drop cX4_drop 2 (some .int) 8 131 [.ref v0, .int v1] M (some (.int r9)) M9 :=
  Fn.of (by decide +kernel) (Nat.le_of_ble_eq_true rfl) rfl (fun K _ hE => tX4_drop_0 hE _ _ _ h)
set_option maxRecDepth 100000 in
set_option maxHeartbeats 4000000 in
theorem uX4_drop_0 {x9 : Cx} {K : Ct} {k9 : Nat} {M0 M9 : Mm} {c9 : Nat} (hX : CeX x9 K RX4 cX4_drop 2 (some .int) 8 131 "drop" M0) (v0 : Nat) (v1 : Int32) (M : Mm) (h : fX4_drop x9 k9 v0 v1 M = some (.inl c9, M9)) : Go x9 K 2 (QX x9 K M0 c9 M9) 0 [(0, .ref v0), (1, .int v1)] [] M := by
  have hE := hX.1
  have hC := hE.1
  unfold fX4_drop at h
  refine go_aload_n hC dX4_drop_0 rfl 0 rfl ?_
  refine go_iload_n hC dX4_drop_1 rfl 1 rfl ?_
  obtain ⟨h4, h⟩ := os_1 h
  rcases os_TX h with h3 | ⟨r1, M2, h3, h⟩
  · exact go_callVX (bytes := cX4_needLetter) (maxL := 2) (ret := none) (n := 1) (As := [.int v1]) (st := []) hX (cX_X4_needLetter K.2.1 hX.2.2 h3) (by unfold okY; decide +kernel) rfl h4 rfl (C := RX4) (T := TX4) (N := 7) rfl m_542 m_539 m_540 m_541 m_2 rfl (by simp [Value.category]) (by decide) (by decide) dX4_drop_2
  refine go_callV (bytes := cX4_needLetter) (maxL := 2) (ret := none) (n := 1) (As := [.int v1]) (st := []) hE (c_X4_needLetter K.2.1 h3) (by unfold okY; decide +kernel) rfl h4 rfl (C := RX4) (T := TX4) (N := 7) rfl m_542 m_539 m_540 m_541 m_2 rfl (by simp [Value.category]) (by decide) (by decide) dX4_drop_2 ?_
  refine go_eq (pc' := 5) (st' := []) (M' := M2) (lv' := [(0, .ref v0), (1, .int v1)]) ?_ rfl rfl rfl rfl
  refine go_aload_n hC dX4_drop_5 rfl 0 rfl ?_
  obtain ⟨h5, h⟩ := os_1 h
  obtain ⟨b6, h7, h⟩ := os_b h
  refine go_getR 2 hC h5 rfl rfl h7 (C := RX4) (T := TX4) (N := 7) rfl inlX4 (by decide) m_21 (Or.inl rfl) dX4_drop_6 ?_
  refine go_iload_n hC dX4_drop_9 rfl 1 rfl ?_
  obtain ⟨h11, h⟩ := os_1 h
  obtain ⟨r8, M9, h10, h⟩ := os_c h
  refine go_callV (bytes := cJx4a65c_remove_915e3) (maxL := 4) (ret := (some (.object "java/lang/Object"))) (n := 1) (As := [.int v1]) (st := []) hE (c_Jx4a65c_remove_915e3 K.2.1 h10) (by unfold okY; decide +kernel) rfl h11 rfl (C := RJx4a65c) (T := TJx4a65c) (N := 3) rfl m_546 m_543 m_544 m_545 m_19 rfl (by simp [Value.category]) (by decide) (by decide) dX4_drop_10 ?_
  refine go_eq (pc' := 13) (st' := [.ref r8]) (M' := M9) (lv' := [(0, .ref v0), (1, .int v1)]) ?_ rfl rfl rfl rfl
  obtain ⟨h12, h⟩ := os_1 h
  refine go_cast hC h12 rfl (C := RX1) (T := TX1) (N := 4) rfl m_538 dX4_drop_13 ?_
  obtain ⟨h16, h⟩ := os_1 h
  obtain ⟨r13, M14, h15, h⟩ := os_c h
  refine go_callV (bytes := cX1_kind) (maxL := 1) (ret := (some .int)) (n := 0) (As := []) (st := []) hE (c_X1_kind K.2.1 h15) (by unfold okY; decide +kernel) rfl h16 rfl (C := RX1) (T := TX1) (N := 4) rfl m_567 m_564 m_565 m_566 m_450 rfl (by simp [Value.category]) (by decide) (by decide) dX4_drop_16 ?_
  refine go_eq (pc' := 19) (st' := [.int r13]) (M' := M14) (lv' := [(0, .ref v0), (1, .int v1)]) ?_ rfl rfl rfl rfl
  cases h
theorem cX_X4_drop (l : Launch) (hl : l.stackTraces = false) {x9 : Cx} {k9 : Nat} {M M9 : Mm} {c9 : Nat} {v0 : Nat} {v1 : Int32} (h : fX4_drop x9 k9 v0 v1 M = some (.inl c9, M9)) : FnX l x9 yX4_drop cX4_drop 2 (some .int) 8 131 [.ref v0, .int v1] M c9 M9 :=
  FnX.of hl (by decide +kernel) (Nat.le_of_ble_eq_true rfl) rfl (fun K _ hX => uX4_drop_0 hX _ _ _ h)
