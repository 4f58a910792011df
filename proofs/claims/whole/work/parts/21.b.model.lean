/-! X5_isElement -/
def fX5_isElement_24 (x9 : Cx) (k9 : Nat) (s0 : Int32) (M : Mm) : Option (Int32 × Mm) :=
  if s0 = 0 ∨ s0 = 1 then some (s0, M) else none
set_option maxRecDepth 100000 in
set_option maxHeartbeats 4000000 in
theorem tX5_isElement_24 {x9 : Cx} {K : Ct} {k9 : Nat} {M0 M9 : Mm} {r9 : Int32} (hE : Ce x9 K RX5 cX5_isElement 2 (some .boolean) 0 0 "isElement" M0) (s0 : Int32) (M : Mm) (h : fX5_isElement_24 x9 k9 s0 M = some (r9, M9)) : Go x9 K 2 (Qf x9 K M0 (some (.int r9)) M9) 24 [] [.int s0] M := by
  have hC := hE.1
  have hnm := hE.2.2.2.2.2.2.2.1
  unfold fX5_isElement_24 at h
  obtain ⟨h1, h⟩ := os_1 h
  cases h
  exact go_zret hE h1 dX5_isElement_24
def fX5_isElement_23 (x9 : Cx) (k9 : Nat) (M : Mm) : Option (Int32 × Mm) :=
  fX5_isElement_24 x9 k9 (0 : Int32) M
set_option maxRecDepth 100000 in
set_option maxHeartbeats 4000000 in
theorem tX5_isElement_23 {x9 : Cx} {K : Ct} {k9 : Nat} {M0 M9 : Mm} {r9 : Int32} (hE : Ce x9 K RX5 cX5_isElement 2 (some .boolean) 0 0 "isElement" M0) (M : Mm) (h : fX5_isElement_23 x9 k9 M = some (r9, M9)) : Go x9 K 2 (Qf x9 K M0 (some (.int r9)) M9) 23 [] [] M := by
  have hC := hE.1
  have hnm := hE.2.2.2.2.2.2.2.1
  unfold fX5_isElement_23 at h
  refine go_iconst hC dX5_isElement_23 (v := (0 : Int32)) (by decide +kernel) ?_
  exact tX5_isElement_24 hE _ _ h
def fX5_isElement (x9 : Cx) (k9 : Nat) (v0 : Int32) (v1 : Int32) (M : Mm) : Option (Int32 × Mm) :=
  if v0 < 0 then fX5_isElement_23 x9 k9 M else if (5 : Int32) ≤ v0 then fX5_isElement_23 x9 k9 M else if v1 < 0 then fX5_isElement_23 x9 k9 M else if (8 : Int32) ≤ v1 then fX5_isElement_23 x9 k9 M else fX5_isElement_24 x9 k9 (1 : Int32) M
set_option maxRecDepth 100000 in
set_option maxHeartbeats 4000000 in
theorem tX5_isElement_0 {x9 : Cx} {K : Ct} {k9 : Nat} {M0 M9 : Mm} {r9 : Int32} (hE : Ce x9 K RX5 cX5_isElement 2 (some .boolean) 0 0 "isElement" M0) (v0 : Int32) (v1 : Int32) (M : Mm) (h : fX5_isElement x9 k9 v0 v1 M = some (r9, M9)) : Go x9 K 2 (Qf x9 K M0 (some (.int r9)) M9) 0 [(0, .int v0), (1, .int v1)] [] M := by
  have hC := hE.1
  have hnm := hE.2.2.2.2.2.2.2.1
  unfold fX5_isElement at h
  refine go_iload_n hC dX5_isElement_0 rfl 0 rfl ?_
  refine go_if_lt (t := 23) hC dX5_isElement_1 (by decide) (fun c1 => ?_) (fun c1 => ?_)
  · have h := os_t h c1
    refine go_sub (lv' := []) [] rfl ?_
    exact tX5_isElement_23 hE _ h
  · have h := os_f h c1
    refine go_iload_n hC dX5_isElement_4 rfl 0 rfl ?_
    refine go_iconst hC dX5_isElement_5 (v := (5 : Int32)) (by decide +kernel) ?_
    refine go_icmp_ge (t := 23) hC dX5_isElement_6 (by decide) (fun c2 => ?_) (fun c2 => ?_)
    · have h := os_t h c2
      refine go_sub (lv' := []) [] rfl ?_
      exact tX5_isElement_23 hE _ h
    · have h := os_f h c2
      refine go_iload_n hC dX5_isElement_9 rfl 1 rfl ?_
      refine go_if_lt (t := 23) hC dX5_isElement_10 (by decide) (fun c3 => ?_) (fun c3 => ?_)
      · have h := os_t h c3
        refine go_sub (lv' := []) [] rfl ?_
        exact tX5_isElement_23 hE _ h
      · have h := os_f h c3
        refine go_iload_n hC dX5_isElement_13 rfl 1 rfl ?_
        refine go_bipush hC dX5_isElement_14 (v := (8 : Int32)) (by decide +kernel) ?_
        refine go_icmp_ge (t := 23) hC dX5_isElement_16 (by decide) (fun c4 => ?_) (fun c4 => ?_)
        · have h := os_t h c4
          refine go_sub (lv' := []) [] rfl ?_
          exact tX5_isElement_23 hE _ h
        · have h := os_f h c4
          refine go_iconst hC dX5_isElement_19 (v := (1 : Int32)) (by decide +kernel) ?_
          refine go_goto (t := 24) hC dX5_isElement_20 (by decide) ?_
          refine go_sub (lv' := []) [] rfl ?_
          exact tX5_isElement_24 hE _ _ h
theorem c_X5_isElement (l : Launch) {x9 : Cx} {k9 : Nat} {M M9 : Mm} {r9 : Int32} {v0 : Int32} {v1 : Int32} (h : fX5_isElement x9 k9 v0 v1 M = some (r9, M9)) : Fn l x9 yX5_isElement cX5_isElement 2 (some .boolean) 0 0 [.int v0, .int v1] M (some (.int r9)) M9 :=
  Fn.of (by decide +kernel) (Nat.le_of_ble_eq_true rfl) rfl (fun K _ hE => tX5_isElement_0 hE _ _ _ h)
/-! X5_change -/
def fX5_change_74 (x9 : Cx) (k9 : Nat) (M : Mm) : Option (Int32 × Mm) :=
  some ((0 : Int32), M)
set_option maxRecDepth 100000 in
set_option maxHeartbeats 4000000 in
theorem tX5_change_74 {x9 : Cx} {K : Ct} {k9 : Nat} {M0 M9 : Mm} {r9 : Int32} (hE : Ce x9 K RX5 cX5_change 5 (some .int) 1 22 "change" M0) (M : Mm) (h : fX5_change_74 x9 k9 M = some (r9, M9)) : Go x9 K 5 (Qf x9 K M0 (some (.int r9)) M9) 74 [] [] M := by
  have hC := hE.1
  have hnm := hE.2.2.2.2.2.2.2.1
  unfold fX5_change_74 at h
  refine go_iconst hC dX5_change_74 (v := (0 : Int32)) (by decide +kernel) ?_
  cases h
  exact go_iret hE dX5_change_75
def fX5_change_67 (x9 : Cx) (k9 : Nat) (v0 : Nat) (v1 : Int32) (v2 : Int32) (v3 : Int32) (v4 : Int32) (s0 : Nat) (s1 : Int32) (M : Mm) : Option (Int32 × Mm) :=
  if mK M s0 = 6 then ob2 (fX5_fails x9 k9 s0 s1 (2 : Int32) M) (fun r1 M2 => if r1 = 0 then if mK M2 v0 = 6 then ob1 (mP M2 v0 17) (fun b7 => if mK M2 v0 = 6 then ob1 (mP M2 v0 19) (fun b10 => if mK M2 b10 = 8 ∧ ¬ (v1 < 0 ∨ mN M2 b10 ≤ (v1).toNatClampNeg) then if mK M2 b7 = 8 ∧ ¬ ((((20 : Int32) * v1) + (mV M2 b10 (v1).toNatClampNeg)) < 0 ∨ mN M2 b7 ≤ ((((20 : Int32) * v1) + (mV M2 b10 (v1).toNatClampNeg))).toNatClampNeg) then lt1 (sV M2 b7 ((((20 : Int32) * v1) + (mV M2 b10 (v1).toNatClampNeg))).toNatClampNeg (((8 : Int32) * v2) + v3)) (fun M14 => if mK M14 v0 = 6 then ob1 (mP M14 v0 18) (fun b17 => if mK M14 v0 = 6 then ob1 (mP M14 v0 19) (fun b20 => if mK M14 b20 = 8 ∧ ¬ (v1 < 0 ∨ mN M14 b20 ≤ (v1).toNatClampNeg) then if mK M14 b17 = 8 ∧ ¬ ((((20 : Int32) * v1) + (mV M14 b20 (v1).toNatClampNeg)) < 0 ∨ mN M14 b17 ≤ ((((20 : Int32) * v1) + (mV M14 b20 (v1).toNatClampNeg))).toNatClampNeg) then lt1 (sV M14 b17 ((((20 : Int32) * v1) + (mV M14 b20 (v1).toNatClampNeg))).toNatClampNeg v4) (fun M24 => if mK M24 v0 = 6 then ob1 (mP M24 v0 19) (fun b27 => if mK M24 b27 = 8 ∧ ¬ (v1 < 0 ∨ mN M24 b27 ≤ (v1).toNatClampNeg) then if mK M24 b27 = 8 ∧ ¬ (v1 < 0 ∨ mN M24 b27 ≤ (v1).toNatClampNeg) then lt1 (sV M24 b27 (v1).toNatClampNeg ((mV M24 b27 (v1).toNatClampNeg) + (1 : Int32))) (fun M31 => if mK M31 v0 = 6 then ob1 (mP M31 v0 19) (fun b34 => if mK M31 b34 = 8 ∧ ¬ (v1 < 0 ∨ mN M31 b34 ≤ (v1).toNatClampNeg) then some ((mV M31 b34 (v1).toNatClampNeg), M31) else none) else none) else none else none) else none) else none else none) else none) else none) else none else none) else none) else none else fX5_change_74 x9 k9 M2) else none
set_option maxRecDepth 100000 in
set_option maxHeartbeats 4000000 in
theorem tX5_change_67 {x9 : Cx} {K : Ct} {k9 : Nat} {M0 M9 : Mm} {r9 : Int32} (hE : Ce x9 K RX5 cX5_change 5 (some .int) 1 22 "change" M0) (v0 : Nat) (v1 : Int32) (v2 : Int32) (v3 : Int32) (v4 : Int32) (s0 : Nat) (s1 : Int32) (M : Mm) (h : fX5_change_67 x9 k9 v0 v1 v2 v3 v4 s0 s1 M = some (r9, M9)) : Go x9 K 5 (Qf x9 K M0 (some (.int r9)) M9) 67 [(0, .ref v0), (1, .int v1), (2, .int v2), (3, .int v3), (4, .int v4)] [.int s1, .ref s0] M := by
  have hC := hE.1
  have hnm := hE.2.2.2.2.2.2.2.1
  unfold fX5_change_67 at h
  refine go_iconst hC dX5_change_67 (v := (2 : Int32)) (by decide +kernel) ?_
  obtain ⟨h4, h⟩ := os_1 h
  obtain ⟨r1, M2, h3, h⟩ := os_c h
  refine go_callV (bytes := cX5_fails) (maxL := 3) (ret := (some .boolean)) (n := 2) (As := [.int s1, .int (2 : Int32)]) (st := []) hE (c_X5_fails K.2.1 h3) (by unfold okY; decide +kernel) rfl h4 rfl (C := RX5) (T := TX5) (N := 28) rfl m_127 m_124 m_125 m_126 m_5 rfl (by simp [Value.category]) (by decide) (by decide) dX5_change_68 ?_
  refine go_eq (pc' := 71) (st' := [.int r1]) (M' := M2) (lv' := [(0, .ref v0), (1, .int v1), (2, .int v2), (3, .int v3), (4, .int v4)]) ?_ rfl rfl rfl rfl
  refine go_if_eq (t := 76) hC dX5_change_71 (by decide) (fun c5 => ?_) (fun c5 => ?_)
  · have h := os_t h c5
    refine go_aload_n hC dX5_change_76 rfl 0 rfl ?_
    obtain ⟨h6, h⟩ := os_1 h
    obtain ⟨b7, h8, h⟩ := os_b h
    refine go_getR 17 hC h6 rfl rfl h8 (C := RX5) (T := TX5) (N := 28) rfl inlX5 (by decide) m_91 (Or.inl rfl) dX5_change_77 ?_
    refine go_bipush hC dX5_change_80 (v := (20 : Int32)) (by decide +kernel) ?_
    refine go_iload_n hC dX5_change_82 rfl 1 rfl ?_
    refine go_imul hC dX5_change_83 ?_
    refine go_aload_n hC dX5_change_84 rfl 0 rfl ?_
    obtain ⟨h9, h⟩ := os_1 h
    obtain ⟨b10, h11, h⟩ := os_b h
    refine go_getR 19 hC h9 rfl rfl h11 (C := RX5) (T := TX5) (N := 28) rfl inlX5 (by decide) m_93 (Or.inl rfl) dX5_change_85 ?_
    refine go_iload_n hC dX5_change_88 rfl 1 rfl ?_
    obtain ⟨h12, h⟩ := os_1 h
    refine go_iald hC h12.1 h12.2 dX5_change_89 ?_
    refine go_iadd hC dX5_change_90 ?_
    refine go_bipush hC dX5_change_91 (v := (8 : Int32)) (by decide +kernel) ?_
    refine go_iload_n hC dX5_change_93 rfl 2 rfl ?_
    refine go_imul hC dX5_change_94 ?_
    refine go_iload_n hC dX5_change_95 rfl 3 rfl ?_
    refine go_iadd hC dX5_change_96 ?_
    obtain ⟨h13, h⟩ := os_1 h
    refine go_iast hC h13.1 h13.2 dX5_change_97 ?_
    obtain ⟨M14, e15, h⟩ := os_l h
    refine go_eq (pc' := 98) (st' := []) (M' := M14) (lv' := [(0, .ref v0), (1, .int v1), (2, .int v2), (3, .int v3), (4, .int v4)]) ?_ rfl rfl rfl e15
    refine go_aload_n hC dX5_change_98 rfl 0 rfl ?_
    obtain ⟨h16, h⟩ := os_1 h
    obtain ⟨b17, h18, h⟩ := os_b h
    refine go_getR 18 hC h16 rfl rfl h18 (C := RX5) (T := TX5) (N := 28) rfl inlX5 (by decide) m_92 (Or.inl rfl) dX5_change_99 ?_
    refine go_bipush hC dX5_change_102 (v := (20 : Int32)) (by decide +kernel) ?_
    refine go_iload_n hC dX5_change_104 rfl 1 rfl ?_
    refine go_imul hC dX5_change_105 ?_
    refine go_aload_n hC dX5_change_106 rfl 0 rfl ?_
    obtain ⟨h19, h⟩ := os_1 h
    obtain ⟨b20, h21, h⟩ := os_b h
    refine go_getR 19 hC h19 rfl rfl h21 (C := RX5) (T := TX5) (N := 28) rfl inlX5 (by decide) m_93 (Or.inl rfl) dX5_change_107 ?_
    refine go_iload_n hC dX5_change_110 rfl 1 rfl ?_
    obtain ⟨h22, h⟩ := os_1 h
    refine go_iald hC h22.1 h22.2 dX5_change_111 ?_
    refine go_iadd hC dX5_change_112 ?_
    refine go_iload hC dX5_change_113 4 rfl ?_
    obtain ⟨h23, h⟩ := os_1 h
    refine go_iast hC h23.1 h23.2 dX5_change_115 ?_
    obtain ⟨M24, e25, h⟩ := os_l h
    refine go_eq (pc' := 116) (st' := []) (M' := M24) (lv' := [(0, .ref v0), (1, .int v1), (2, .int v2), (3, .int v3), (4, .int v4)]) ?_ rfl rfl rfl e25
    refine go_aload_n hC dX5_change_116 rfl 0 rfl ?_
    obtain ⟨h26, h⟩ := os_1 h
    obtain ⟨b27, h28, h⟩ := os_b h
    refine go_getR 19 hC h26 rfl rfl h28 (C := RX5) (T := TX5) (N := 28) rfl inlX5 (by decide) m_93 (Or.inl rfl) dX5_change_117 ?_
    refine go_iload_n hC dX5_change_120 rfl 1 rfl ?_
    refine go_dup2 hC dX5_change_121 rfl rfl ?_
    obtain ⟨h29, h⟩ := os_1 h
    refine go_iald hC h29.1 h29.2 dX5_change_122 ?_
    refine go_iconst hC dX5_change_123 (v := (1 : Int32)) (by decide +kernel) ?_
    refine go_iadd hC dX5_change_124 ?_
    obtain ⟨h30, h⟩ := os_1 h
    refine go_iast hC h30.1 h30.2 dX5_change_125 ?_
    obtain ⟨M31, e32, h⟩ := os_l h
    refine go_eq (pc' := 126) (st' := []) (M' := M31) (lv' := [(0, .ref v0), (1, .int v1), (2, .int v2), (3, .int v3), (4, .int v4)]) ?_ rfl rfl rfl e32
    refine go_aload_n hC dX5_change_126 rfl 0 rfl ?_
    obtain ⟨h33, h⟩ := os_1 h
    obtain ⟨b34, h35, h⟩ := os_b h
    refine go_getR 19 hC h33 rfl rfl h35 (C := RX5) (T := TX5) (N := 28) rfl inlX5 (by decide) m_93 (Or.inl rfl) dX5_change_127 ?_
    refine go_iload_n hC dX5_change_130 rfl 1 rfl ?_
    obtain ⟨h36, h⟩ := os_1 h
    refine go_iald hC h36.1 h36.2 dX5_change_131 ?_
    cases h
    exact go_iret hE dX5_change_132
  · have h := os_f h c5
    refine go_sub (lv' := []) [] rfl ?_
    exact tX5_change_74 hE _ h
def fX5_change_62 (x9 : Cx) (k9 : Nat) (v0 : Nat) (v1 : Int32) (v2 : Int32) (v3 : Int32) (v4 : Int32) (s0 : Nat) (M : Mm) : Option (Int32 × Mm) :=
  fX5_change_67 x9 k9 v0 v1 v2 v3 v4 s0 (1 : Int32) M
set_option maxRecDepth 100000 in
set_option maxHeartbeats 4000000 in
theorem tX5_change_62 {x9 : Cx} {K : Ct} {k9 : Nat} {M0 M9 : Mm} {r9 : Int32} (hE : Ce x9 K RX5 cX5_change 5 (some .int) 1 22 "change" M0) (v0 : Nat) (v1 : Int32) (v2 : Int32) (v3 : Int32) (v4 : Int32) (s0 : Nat) (M : Mm) (h : fX5_change_62 x9 k9 v0 v1 v2 v3 v4 s0 M = some (r9, M9)) : Go x9 K 5 (Qf x9 K M0 (some (.int r9)) M9) 62 [(0, .ref v0), (1, .int v1), (2, .int v2), (3, .int v3), (4, .int v4)] [.ref s0] M := by
  have hC := hE.1
  have hnm := hE.2.2.2.2.2.2.2.1
  unfold fX5_change_62 at h
  refine go_iconst hC dX5_change_62 (v := (1 : Int32)) (by decide +kernel) ?_
  refine go_goto (t := 67) hC dX5_change_63 (by decide) ?_
  exact tX5_change_67 hE _ _ _ _ _ _ _ _ h
def fX5_change_34 (x9 : Cx) (k9 : Nat) (v0 : Nat) (v1 : Int32) (v2 : Int32) (v3 : Int32) (v4 : Int32) (s0 : Nat) (s1 : Int32) (M : Mm) : Option (Int32 × Mm) :=
  if mK M s0 = 6 then ob2 (fX5_fails x9 k9 s0 s1 (1 : Int32) M) (fun r1 M2 => if r1 = 0 then if mK M2 v0 = 6 then ob1 (mP M2 v0 7) (fun b7 => if mK M2 b7 = 8 ∧ ¬ (v1 < 0 ∨ mN M2 b7 ≤ (v1).toNatClampNeg) then if (mV M2 b7 (v1).toNatClampNeg) = 0 then if mK M2 v0 = 6 then ob1 (mP M2 v0 19) (fun b12 => if mK M2 b12 = 8 ∧ ¬ (v1 < 0 ∨ mN M2 b12 ≤ (v1).toNatClampNeg) then if (mV M2 b12 (v1).toNatClampNeg) = (20 : Int32) then fX5_change_62 x9 k9 v0 v1 v2 v3 v4 v0 M2 else fX5_change_67 x9 k9 v0 v1 v2 v3 v4 v0 (0 : Int32) M2 else none) else none else fX5_change_62 x9 k9 v0 v1 v2 v3 v4 v0 M2 else none) else none else fX5_change_74 x9 k9 M2) else none
set_option maxRecDepth 100000 in
set_option maxHeartbeats 4000000 in
theorem tX5_change_34 {x9 : Cx} {K : Ct} {k9 : Nat} {M0 M9 : Mm} {r9 : Int32} (hE : Ce x9 K RX5 cX5_change 5 (some .int) 1 22 "change" M0) (v0 : Nat) (v1 : Int32) (v2 : Int32) (v3 : Int32) (v4 : Int32) (s0 : Nat) (s1 : Int32) (M : Mm) (h : fX5_change_34 x9 k9 v0 v1 v2 v3 v4 s0 s1 M = some (r9, M9)) : Go x9 K 5 (Qf x9 K M0 (some (.int r9)) M9) 34 [(0, .ref v0), (1, .int v1), (2, .int v2), (3, .int v3), (4, .int v4)] [.int s1, .ref s0] M := by
  have hC := hE.1
  have hnm := hE.2.2.2.2.2.2.2.1
  unfold fX5_change_34 at h
  refine go_iconst hC dX5_change_34 (v := (1 : Int32)) (by decide +kernel) ?_
  obtain ⟨h4, h⟩ := os_1 h
  obtain ⟨r1, M2, h3, h⟩ := os_c h
  refine go_callV (bytes := cX5_fails) (maxL := 3) (ret := (some .boolean)) (n := 2) (As := [.int s1, .int (1 : Int32)]) (st := []) hE (c_X5_fails K.2.1 h3) (by unfold okY; decide +kernel) rfl h4 rfl (C := RX5) (T := TX5) (N := 28) rfl m_127 m_124 m_125 m_126 m_5 rfl (by simp [Value.category]) (by decide) (by decide) dX5_change_35 ?_
  refine go_eq (pc' := 38) (st' := [.int r1]) (M' := M2) (lv' := [(0, .ref v0), (1, .int v1), (2, .int v2), (3, .int v3), (4, .int v4)]) ?_ rfl rfl rfl rfl
  refine go_if_ne (t := 74) hC dX5_change_38 (by decide) (fun c5 => ?_) (fun c5 => ?_)
  · have h := os_f h c5
    refine go_sub (lv' := []) [] rfl ?_
    exact tX5_change_74 hE _ h
  · have h := os_t h c5
    refine go_aload_n hC dX5_change_41 rfl 0 rfl ?_
    refine go_aload_n hC dX5_change_42 rfl 0 rfl ?_
    obtain ⟨h6, h⟩ := os_1 h
    obtain ⟨b7, h8, h⟩ := os_b h
    refine go_getR 7 hC h6 rfl rfl h8 (C := RX5) (T := TX5) (N := 28) rfl inlX5 (by decide) m_81 (Or.inl rfl) dX5_change_43 ?_
    refine go_iload_n hC dX5_change_46 rfl 1 rfl ?_
    obtain ⟨h9, h⟩ := os_1 h
    refine go_iald hC h9.1 h9.2 dX5_change_47 ?_
    refine go_if_ne (t := 62) hC dX5_change_48 (by decide) (fun c10 => ?_) (fun c10 => ?_)
    · have h := os_f h c10
      exact tX5_change_62 hE _ _ _ _ _ _ _ h
    · have h := os_t h c10
      refine go_aload_n hC dX5_change_51 rfl 0 rfl ?_
      obtain ⟨h11, h⟩ := os_1 h
      obtain ⟨b12, h13, h⟩ := os_b h
      refine go_getR 19 hC h11 rfl rfl h13 (C := RX5) (T := TX5) (N := 28) rfl inlX5 (by decide) m_93 (Or.inl rfl) dX5_change_52 ?_
      refine go_iload_n hC dX5_change_55 rfl 1 rfl ?_
      obtain ⟨h14, h⟩ := os_1 h
      refine go_iald hC h14.1 h14.2 dX5_change_56 ?_
      refine go_bipush hC dX5_change_57 (v := (20 : Int32)) (by decide +kernel) ?_
      refine go_icmp_ne (t := 66) hC dX5_change_59 (by decide) (fun c15 => ?_) (fun c15 => ?_)
      · have h := os_f h c15
        refine go_iconst hC dX5_change_66 (v := (0 : Int32)) (by decide +kernel) ?_
        exact tX5_change_67 hE _ _ _ _ _ _ _ _ h
      · have h := os_t h c15
        exact tX5_change_62 hE _ _ _ _ _ _ _ h
def fX5_change_29 (x9 : Cx) (k9 : Nat) (v0 : Nat) (v1 : Int32) (v2 : Int32) (v3 : Int32) (v4 : Int32) (s0 : Nat) (M : Mm) : Option (Int32 × Mm) :=
  fX5_change_34 x9 k9 v0 v1 v2 v3 v4 s0 (1 : Int32) M
set_option maxRecDepth 100000 in
set_option maxHeartbeats 4000000 in
theorem tX5_change_29 {x9 : Cx} {K : Ct} {k9 : Nat} {M0 M9 : Mm} {r9 : Int32} (hE : Ce x9 K RX5 cX5_change 5 (some .int) 1 22 "change" M0) (v0 : Nat) (v1 : Int32) (v2 : Int32) (v3 : Int32) (v4 : Int32) (s0 : Nat) (M : Mm) (h : fX5_change_29 x9 k9 v0 v1 v2 v3 v4 s0 M = some (r9, M9)) : Go x9 K 5 (Qf x9 K M0 (some (.int r9)) M9) 29 [(0, .ref v0), (1, .int v1), (2, .int v2), (3, .int v3), (4, .int v4)] [.ref s0] M := by
  have hC := hE.1
  have hnm := hE.2.2.2.2.2.2.2.1
  unfold fX5_change_29 at h
  refine go_iconst hC dX5_change_29 (v := (1 : Int32)) (by decide +kernel) ?_
  refine go_goto (t := 34) hC dX5_change_30 (by decide) ?_
  exact tX5_change_34 hE _ _ _ _ _ _ _ _ h
def fX5_change_33 (x9 : Cx) (k9 : Nat) (v0 : Nat) (v1 : Int32) (v2 : Int32) (v3 : Int32) (v4 : Int32) (s0 : Nat) (M : Mm) : Option (Int32 × Mm) :=
  fX5_change_34 x9 k9 v0 v1 v2 v3 v4 s0 (0 : Int32) M
set_option maxRecDepth 100000 in
set_option maxHeartbeats 4000000 in
theorem tX5_change_33 {x9 : Cx} {K : Ct} {k9 : Nat} {M0 M9 : Mm} {r9 : Int32} (hE : Ce x9 K RX5 cX5_change 5 (some .int) 1 22 "change" M0) (v0 : Nat) (v1 : Int32) (v2 : Int32) (v3 : Int32) (v4 : Int32) (s0 : Nat) (M : Mm) (h : fX5_change_33 x9 k9 v0 v1 v2 v3 v4 s0 M = some (r9, M9)) : Go x9 K 5 (Qf x9 K M0 (some (.int r9)) M9) 33 [(0, .ref v0), (1, .int v1), (2, .int v2), (3, .int v3), (4, .int v4)] [.ref s0] M := by
  have hC := hE.1
  have hnm := hE.2.2.2.2.2.2.2.1
  unfold fX5_change_33 at h
  refine go_iconst hC dX5_change_33 (v := (0 : Int32)) (by decide +kernel) ?_
  exact tX5_change_34 hE _ _ _ _ _ _ _ _ h
def fX5_change (x9 : Cx) (k9 : Nat) (v0 : Nat) (v1 : Int32) (v2 : Int32) (v3 : Int32) (v4 : Int32) (M : Mm) : Option (Int32 × Mm) :=
  if mK M v0 = 6 then ob2 (fX5_isOne x9 k9 v0 v1 M) (fun r1 M2 => if r1 = 0 then fX5_change_29 x9 k9 v0 v1 v2 v3 v4 v0 M2 else ob2 (fX5_isElement x9 k9 v2 v3 M2) (fun r6 M7 => if r6 = 0 then fX5_change_29 x9 k9 v0 v1 v2 v3 v4 v0 M7 else if v4 = (1 : Int32) then fX5_change_33 x9 k9 v0 v1 v2 v3 v4 v0 M7 else if v4 = (-1 : Int32) then fX5_change_33 x9 k9 v0 v1 v2 v3 v4 v0 M7 else fX5_change_29 x9 k9 v0 v1 v2 v3 v4 v0 M7)) else none
set_option maxRecDepth 100000 in
set_option maxHeartbeats 4000000 in
theorem tX5_change_0 {x9 : Cx} {K : Ct} {k9 : Nat} {M0 M9 : Mm} {r9 : Int32} (hE : Ce x9 K RX5 cX5_change 5 (some .int) 1 22 "change" M0) (v0 : Nat) (v1 : Int32) (v2 : Int32) (v3 : Int32) (v4 : Int32) (M : Mm) (h : fX5_change x9 k9 v0 v1 v2 v3 v4 M = some (r9, M9)) : Go x9 K 5 (Qf x9 K M0 (some (.int r9)) M9) 0 [(0, .ref v0), (1, .int v1), (2, .int v2), (3, .int v3), (4, .int v4)] [] M := by
  have hC := hE.1
  have hnm := hE.2.2.2.2.2.2.2.1
  unfold fX5_change at h
  refine go_aload_n hC dX5_change_0 rfl 0 rfl ?_
  refine go_aload_n hC dX5_change_1 rfl 0 rfl ?_
  refine go_iload_n hC dX5_change_2 rfl 1 rfl ?_
  obtain ⟨h4, h⟩ := os_1 h
  obtain ⟨r1, M2, h3, h⟩ := os_c h
  refine go_callV (bytes := cX5_isOne) (maxL := 2) (ret := (some .boolean)) (n := 1) (As := [.int v1]) (st := [.ref v0]) hE (c_X5_isOne K.2.1 h3) (by unfold okY; decide +kernel) rfl h4 rfl (C := RX5) (T := TX5) (N := 28) rfl m_301 m_298 m_299 m_300 m_5 rfl (by simp [Value.category]) (by decide) (by decide) dX5_change_3 ?_
  refine go_eq (pc' := 6) (st' := [.int r1, .ref v0]) (M' := M2) (lv' := [(0, .ref v0), (1, .int v1), (2, .int v2), (3, .int v3), (4, .int v4)]) ?_ rfl rfl rfl rfl
  refine go_if_eq (t := 29) hC dX5_change_6 (by decide) (fun c5 => ?_) (fun c5 => ?_)
  · have h := os_t h c5
    exact tX5_change_29 hE _ _ _ _ _ _ _ h
  · have h := os_f h c5
    refine go_iload_n hC dX5_change_9 rfl 2 rfl ?_
    refine go_iload_n hC dX5_change_10 rfl 3 rfl ?_
    obtain ⟨r6, M7, h8, h⟩ := os_c h
    refine go_callS (bytes := cX5_isElement) (maxL := 2) (ret := (some .boolean)) (n := 2) (As := [.int v2, .int v3]) (st := [.ref v0]) hE (c_X5_isElement K.2.1 h8) (by unfold okY; decide +kernel) rfl m_362 m_360 m_361 m_5 rfl (by simp [Value.category]) (by decide) (by decide) dX5_change_11 ?_
    refine go_eq (pc' := 14) (st' := [.int r6, .ref v0]) (M' := M7) (lv' := [(0, .ref v0), (1, .int v1), (2, .int v2), (3, .int v3), (4, .int v4)]) ?_ rfl rfl rfl rfl
    refine go_if_eq (t := 29) hC dX5_change_14 (by decide) (fun c10 => ?_) (fun c10 => ?_)
    · have h := os_t h c10
      exact tX5_change_29 hE _ _ _ _ _ _ _ h
    · have h := os_f h c10
      refine go_iload hC dX5_change_17 4 rfl ?_
      refine go_iconst hC dX5_change_19 (v := (1 : Int32)) (by decide +kernel) ?_
      refine go_icmp_eq (t := 33) hC dX5_change_20 (by decide) (fun c11 => ?_) (fun c11 => ?_)
      · have h := os_t h c11
        exact tX5_change_33 hE _ _ _ _ _ _ _ h
      · have h := os_f h c11
        refine go_iload hC dX5_change_23 4 rfl ?_
        refine go_iconst hC dX5_change_25 (v := (-1 : Int32)) (by decide +kernel) ?_
        refine go_icmp_eq (t := 33) hC dX5_change_26 (by decide) (fun c12 => ?_) (fun c12 => ?_)
        · have h := os_t h c12
          exact tX5_change_33 hE _ _ _ _ _ _ _ h
        · have h := os_f h c12
          exact tX5_change_29 hE _ _ _ _ _ _ _ h
theorem c_X5_change (l : Launch) {x9 : Cx} {k9 : Nat} {M M9 : Mm} {r9 : Int32} {v0 : Nat} {v1 : Int32} {v2 : Int32} {v3 : Int32} {v4 : Int32} (h : fX5_change x9 k9 v0 v1 v2 v3 v4 M = some (r9, M9)) : Fn l x9 yX5_change cX5_change 5 (some .int) 1 22 [.ref v0, .int v1, .int v2, .int v3, .int v4] M (some (.int r9)) M9 :=
  Fn.of (by decide +kernel) (Nat.le_of_ble_eq_true rfl) rfl (fun K _ hE => tX5_change_0 hE _ _ _ _ _ _ h)
/-! X5_count -/
def fX5_count_51 (x9 : Cx) (k9 : Nat) (M : Mm) : Option (Int32 × Mm) :=
  some ((0 : Int32), M)
set_option maxRecDepth 100000 in
set_option maxHeartbeats 4000000 in
theorem tX5_count_51 {x9 : Cx} {K : Ct} {k9 : Nat} {M0 M9 : Mm} {r9 : Int32} (hE : Ce x9 K RX5 cX5_count 7 (some .int) 1 22 "count" M0) (M : Mm) (h : fX5_count_51 x9 k9 M = some (r9, M9)) : Go x9 K 7 (Qf x9 K M0 (some (.int r9)) M9) 51 [] [] M := by
  have hC := hE.1
  have hnm := hE.2.2.2.2.2.2.2.1
  unfold fX5_count_51 at h
  refine go_iconst hC dX5_count_51 (v := (0 : Int32)) (by decide +kernel) ?_
  cases h
  exact go_iret hE dX5_count_52
def fX5_count_152 (x9 : Cx) (k9 : Nat) (rec59 : Nat → Int32 → Int32 → Int32 → Int32 → Int32 → Mm → Option (Int32 × Mm)) (v0 : Nat) (v1 : Int32) (v2 : Int32) (v3 : Int32) (v4 : Int32) (v5 : Int32) (M : Mm) : Option (Int32 × Mm) :=
  rec59 v0 v1 v2 v3 v4 (v5 + 1) M
set_option maxRecDepth 100000 in
set_option maxHeartbeats 4000000 in
theorem tX5_count_152 {x9 : Cx} {K : Ct} {k9 : Nat} {M0 M9 : Mm} {r9 : Int32} (hE : Ce x9 K RX5 cX5_count 7 (some .int) 1 22 "count" M0) {rec59 : Nat → Int32 → Int32 → Int32 → Int32 → Int32 → Mm → Option (Int32 × Mm)} (hrec59 : ∀ (v0 : Nat) (v1 : Int32) (v2 : Int32) (v3 : Int32) (v4 : Int32) (v5 : Int32) (M : Mm), rec59 v0 v1 v2 v3 v4 v5 M = some (r9, M9) → Go x9 K 7 (Qf x9 K M0 (some (.int r9)) M9) 59 [(0, .ref v0), (1, .int v1), (2, .int v2), (3, .int v3), (4, .int v4), (5, .int v5)] [] M) (v0 : Nat) (v1 : Int32) (v2 : Int32) (v3 : Int32) (v4 : Int32) (v5 : Int32) (M : Mm) (h : fX5_count_152 x9 k9 rec59 v0 v1 v2 v3 v4 v5 M = some (r9, M9)) : Go x9 K 7 (Qf x9 K M0 (some (.int r9)) M9) 152 [(0, .ref v0), (1, .int v1), (2, .int v2), (3, .int v3), (4, .int v4), (5, .int v5)] [] M := by
  have hC := hE.1
  have hnm := hE.2.2.2.2.2.2.2.1
  unfold fX5_count_152 at h
  refine go_iinc (q := 5) (v := (v5 + 1)) (lv' := [(5, .int (v5 + 1)), (0, .ref v0), (1, .int v1), (2, .int v2), (3, .int v3), (4, .int v4)]) hC dX5_count_152 rfl rfl (by decide) rfl ?_
  refine go_goto (t := 59) hC dX5_count_155 (by decide) ?_
  refine go_sub (lv' := [(0, .ref v0), (1, .int v1), (2, .int v2), (3, .int v3), (4, .int v4), (5, .int (v5 + 1))]) [1, 2, 3, 4, 5, 0] rfl ?_
  exact hrec59 _ _ _ _ _ _ _ h
def fX5_count_143 (x9 : Cx) (k9 : Nat) (rec59 : Nat → Int32 → Int32 → Int32 → Int32 → Int32 → Mm → Option (Int32 × Mm)) (rec90 : Nat → Int32 → Int32 → Int32 → Int32 → Int32 → Int32 → Mm → Option (Int32 × Mm)) (v0 : Nat) (v1 : Int32) (v2 : Int32) (v3 : Int32) (v5 : Int32) (v6 : Int32) (s0 : Int32) (s1 : Int32) (M : Mm) : Option (Int32 × Mm) :=
  rec90 v0 v1 v2 v3 (s0 + s1) v5 (v6 + 1) M
set_option maxRecDepth 100000 in
set_option maxHeartbeats 4000000 in
theorem tX5_count_143 {x9 : Cx} {K : Ct} {k9 : Nat} {M0 M9 : Mm} {r9 : Int32} (hE : Ce x9 K RX5 cX5_count 7 (some .int) 1 22 "count" M0) {rec59 : Nat → Int32 → Int32 → Int32 → Int32 → Int32 → Mm → Option (Int32 × Mm)} {rec90 : Nat → Int32 → Int32 → Int32 → Int32 → Int32 → Int32 → Mm → Option (Int32 × Mm)} (hrec59 : ∀ (v0 : Nat) (v1 : Int32) (v2 : Int32) (v3 : Int32) (v4 : Int32) (v5 : Int32) (M : Mm), rec59 v0 v1 v2 v3 v4 v5 M = some (r9, M9) → Go x9 K 7 (Qf x9 K M0 (some (.int r9)) M9) 59 [(0, .ref v0), (1, .int v1), (2, .int v2), (3, .int v3), (4, .int v4), (5, .int v5)] [] M) (hrec90 : ∀ (v0 : Nat) (v1 : Int32) (v2 : Int32) (v3 : Int32) (v4 : Int32) (v5 : Int32) (v6 : Int32) (M : Mm), rec90 v0 v1 v2 v3 v4 v5 v6 M = some (r9, M9) → Go x9 K 7 (Qf x9 K M0 (some (.int r9)) M9) 90 [(0, .ref v0), (1, .int v1), (2, .int v2), (3, .int v3), (4, .int v4), (5, .int v5), (6, .int v6)] [] M) (v0 : Nat) (v1 : Int32) (v2 : Int32) (v3 : Int32) (v5 : Int32) (v6 : Int32) (s0 : Int32) (s1 : Int32) (M : Mm) (h : fX5_count_143 x9 k9 rec59 rec90 v0 v1 v2 v3 v5 v6 s0 s1 M = some (r9, M9)) : Go x9 K 7 (Qf x9 K M0 (some (.int r9)) M9) 143 [(0, .ref v0), (1, .int v1), (2, .int v2), (3, .int v3), (5, .int v5), (6, .int v6)] [.int s1, .int s0] M := by
  have hC := hE.1
  have hnm := hE.2.2.2.2.2.2.2.1
  unfold fX5_count_143 at h
  refine go_iadd hC dX5_count_143 ?_
  refine go_istore (lv' := [(4, .int (s0 + s1)), (0, .ref v0), (1, .int v1), (2, .int v2), (3, .int v3), (5, .int v5), (6, .int v6)]) hC dX5_count_144 (by decide) rfl ?_
  refine go_iinc (q := 6) (v := (v6 + 1)) (lv' := [(6, .int (v6 + 1)), (4, .int (s0 + s1)), (0, .ref v0), (1, .int v1), (2, .int v2), (3, .int v3), (5, .int v5)]) hC dX5_count_146 rfl rfl (by decide) rfl ?_
  refine go_goto (t := 90) hC dX5_count_149 (by decide) ?_
  refine go_sub (lv' := [(0, .ref v0), (1, .int v1), (2, .int v2), (3, .int v3), (4, .int (s0 + s1)), (5, .int v5), (6, .int (v6 + 1))]) [2, 3, 4, 5, 1, 6, 0] rfl ?_
  exact hrec90 _ _ _ _ _ _ _ _ h
def fX5_count_90 (x9 : Cx) (k9 : Nat) (rec59 : Nat → Int32 → Int32 → Int32 → Int32 → Int32 → Mm → Option (Int32 × Mm)) : Nat → Nat → Int32 → Int32 → Int32 → Int32 → Int32 → Int32 → Mm → Option (Int32 × Mm)
  | 0, _, _, _, _, _, _, _, _ => none
  | n9 + 1, v0, v1, v2, v3, v4, v5, v6, M => if mK M v0 = 6 then ob1 (mP M v0 19) (fun b2 => if mK M b2 = 8 ∧ ¬ (v5 < 0 ∨ mN M b2 ≤ (v5).toNatClampNeg) then if (mV M b2 (v5).toNatClampNeg) ≤ v6 then fX5_count_152 x9 k9 rec59 v0 v1 v2 v3 v4 v5 M else if mK M v0 = 6 then ob1 (mP M v0 17) (fun b7 => if mK M b7 = 8 ∧ ¬ ((((20 : Int32) * v5) + v6) < 0 ∨ mN M b7 ≤ ((((20 : Int32) * v5) + v6)).toNatClampNeg) then if (mV M b7 ((((20 : Int32) * v5) + v6)).toNatClampNeg) = (((8 : Int32) * v2) + v3) then if mK M v0 = 6 then ob1 (mP M v0 18) (fun b12 => if mK M b12 = 8 ∧ ¬ ((((20 : Int32) * v5) + v6) < 0 ∨ mN M b12 ≤ ((((20 : Int32) * v5) + v6)).toNatClampNeg) then fX5_count_143 x9 k9 rec59 (fX5_count_90 x9 k9 rec59 n9) v0 v1 v2 v3 v5 v6 v4 (mV M b12 ((((20 : Int32) * v5) + v6)).toNatClampNeg) M else none) else none else fX5_count_143 x9 k9 rec59 (fX5_count_90 x9 k9 rec59 n9) v0 v1 v2 v3 v5 v6 v4 (0 : Int32) M else none) else none else none) else none
set_option maxRecDepth 100000 in
set_option maxHeartbeats 4000000 in
theorem tX5_count_90 {x9 : Cx} {K : Ct} {k9 : Nat} {M0 M9 : Mm} {r9 : Int32} (hE : Ce x9 K RX5 cX5_count 7 (some .int) 1 22 "count" M0) {rec59 : Nat → Int32 → Int32 → Int32 → Int32 → Int32 → Mm → Option (Int32 × Mm)} (hrec59 : ∀ (v0 : Nat) (v1 : Int32) (v2 : Int32) (v3 : Int32) (v4 : Int32) (v5 : Int32) (M : Mm), rec59 v0 v1 v2 v3 v4 v5 M = some (r9, M9) → Go x9 K 7 (Qf x9 K M0 (some (.int r9)) M9) 59 [(0, .ref v0), (1, .int v1), (2, .int v2), (3, .int v3), (4, .int v4), (5, .int v5)] [] M) : ∀ (n9 : Nat) (v0 : Nat) (v1 : Int32) (v2 : Int32) (v3 : Int32) (v4 : Int32) (v5 : Int32) (v6 : Int32) (M : Mm), fX5_count_90 x9 k9 rec59 n9 v0 v1 v2 v3 v4 v5 v6 M = some (r9, M9) → Go x9 K 7 (Qf x9 K M0 (some (.int r9)) M9) 90 [(0, .ref v0), (1, .int v1), (2, .int v2), (3, .int v3), (4, .int v4), (5, .int v5), (6, .int v6)] [] M := by
  have hC := hE.1
  have hnm := hE.2.2.2.2.2.2.2.1
  intro n9
  induction n9 with
  | zero => intro _ _ _ _ _ _ _ _ h; cases h
  | succ n9 ih =>
    intro v0 v1 v2 v3 v4 v5 v6 M h
    rw [fX5_count_90] at h
    refine go_iload hC dX5_count_90 6 rfl ?_
    refine go_aload_n hC dX5_count_92 rfl 0 rfl ?_
    obtain ⟨h1, h⟩ := os_1 h
    obtain ⟨b2, h3, h⟩ := os_b h
    refine go_getR 19 hC h1 rfl rfl h3 (C := RX5) (T := TX5) (N := 28) rfl inlX5 (by decide) m_93 (Or.inl rfl) dX5_count_93 ?_
    refine go_iload hC dX5_count_96 5 rfl ?_
    obtain ⟨h4, h⟩ := os_1 h
    refine go_iald hC h4.1 h4.2 dX5_count_98 ?_
    refine go_icmp_ge (t := 152) hC dX5_count_99 (by decide) (fun c5 => ?_) (fun c5 => ?_)
    · have h := os_t h c5
      refine go_sub (lv' := [(0, .ref v0), (1, .int v1), (2, .int v2), (3, .int v3), (4, .int v4), (5, .int v5)]) [0, 1, 2, 3, 4, 5] rfl ?_
      exact tX5_count_152 hE hrec59 _ _ _ _ _ _ _ h
    · have h := os_f h c5
      refine go_iload hC dX5_count_102 4 rfl ?_
      refine go_aload_n hC dX5_count_104 rfl 0 rfl ?_
      obtain ⟨h6, h⟩ := os_1 h
      obtain ⟨b7, h8, h⟩ := os_b h
      refine go_getR 17 hC h6 rfl rfl h8 (C := RX5) (T := TX5) (N := 28) rfl inlX5 (by decide) m_91 (Or.inl rfl) dX5_count_105 ?_
      refine go_bipush hC dX5_count_108 (v := (20 : Int32)) (by decide +kernel) ?_
      refine go_iload hC dX5_count_110 5 rfl ?_
      refine go_imul hC dX5_count_112 ?_
      refine go_iload hC dX5_count_113 6 rfl ?_
      refine go_iadd hC dX5_count_115 ?_
      obtain ⟨h9, h⟩ := os_1 h
      refine go_iald hC h9.1 h9.2 dX5_count_116 ?_
      refine go_bipush hC dX5_count_117 (v := (8 : Int32)) (by decide +kernel) ?_
      refine go_iload_n hC dX5_count_119 rfl 2 rfl ?_
      refine go_imul hC dX5_count_120 ?_
      refine go_iload_n hC dX5_count_121 rfl 3 rfl ?_
      refine go_iadd hC dX5_count_122 ?_
      refine go_icmp_ne (t := 142) hC dX5_count_123 (by decide) (fun c10 => ?_) (fun c10 => ?_)
      · have h := os_f h c10
        refine go_iconst hC dX5_count_142 (v := (0 : Int32)) (by decide +kernel) ?_
        refine go_sub (lv' := [(0, .ref v0), (1, .int v1), (2, .int v2), (3, .int v3), (5, .int v5), (6, .int v6)]) [0, 1, 2, 3, 5, 6] rfl ?_
        exact tX5_count_143 hE hrec59 ih _ _ _ _ _ _ _ _ _ h
      · have h := os_t h c10
        refine go_aload_n hC dX5_count_126 rfl 0 rfl ?_
        obtain ⟨h11, h⟩ := os_1 h
        obtain ⟨b12, h13, h⟩ := os_b h
        refine go_getR 18 hC h11 rfl rfl h13 (C := RX5) (T := TX5) (N := 28) rfl inlX5 (by decide) m_92 (Or.inl rfl) dX5_count_127 ?_
        refine go_bipush hC dX5_count_130 (v := (20 : Int32)) (by decide +kernel) ?_
        refine go_iload hC dX5_count_132 5 rfl ?_
        refine go_imul hC dX5_count_134 ?_
        refine go_iload hC dX5_count_135 6 rfl ?_
        refine go_iadd hC dX5_count_137 ?_
        obtain ⟨h14, h⟩ := os_1 h
        refine go_iald hC h14.1 h14.2 dX5_count_138 ?_
        refine go_goto (t := 143) hC dX5_count_139 (by decide) ?_
        refine go_sub (lv' := [(0, .ref v0), (1, .int v1), (2, .int v2), (3, .int v3), (5, .int v5), (6, .int v6)]) [0, 1, 2, 3, 5, 6] rfl ?_
        exact tX5_count_143 hE hrec59 ih _ _ _ _ _ _ _ _ _ h
def fX5_count_87 (x9 : Cx) (k9 : Nat) (rec59 : Nat → Int32 → Int32 → Int32 → Int32 → Int32 → Mm → Option (Int32 × Mm)) (v0 : Nat) (v1 : Int32) (v2 : Int32) (v3 : Int32) (v4 : Int32) (v5 : Int32) (M : Mm) : Option (Int32 × Mm) :=
  fX5_count_90 x9 k9 rec59 k9 v0 v1 v2 v3 v4 v5 (0 : Int32) M
set_option maxRecDepth 100000 in
set_option maxHeartbeats 4000000 in
theorem tX5_count_87 {x9 : Cx} {K : Ct} {k9 : Nat} {M0 M9 : Mm} {r9 : Int32} (hE : Ce x9 K RX5 cX5_count 7 (some .int) 1 22 "count" M0) {rec59 : Nat → Int32 → Int32 → Int32 → Int32 → Int32 → Mm → Option (Int32 × Mm)} (hrec59 : ∀ (v0 : Nat) (v1 : Int32) (v2 : Int32) (v3 : Int32) (v4 : Int32) (v5 : Int32) (M : Mm), rec59 v0 v1 v2 v3 v4 v5 M = some (r9, M9) → Go x9 K 7 (Qf x9 K M0 (some (.int r9)) M9) 59 [(0, .ref v0), (1, .int v1), (2, .int v2), (3, .int v3), (4, .int v4), (5, .int v5)] [] M) (v0 : Nat) (v1 : Int32) (v2 : Int32) (v3 : Int32) (v4 : Int32) (v5 : Int32) (M : Mm) (h : fX5_count_87 x9 k9 rec59 v0 v1 v2 v3 v4 v5 M = some (r9, M9)) : Go x9 K 7 (Qf x9 K M0 (some (.int r9)) M9) 87 [(0, .ref v0), (1, .int v1), (2, .int v2), (3, .int v3), (4, .int v4), (5, .int v5)] [] M := by
  have hC := hE.1
  have hnm := hE.2.2.2.2.2.2.2.1
  unfold fX5_count_87 at h
  refine go_iconst hC dX5_count_87 (v := (0 : Int32)) (by decide +kernel) ?_
  refine go_istore (lv' := [(6, .int (0 : Int32)), (0, .ref v0), (1, .int v1), (2, .int v2), (3, .int v3), (4, .int v4), (5, .int v5)]) hC dX5_count_88 (by decide) rfl ?_
  refine go_sub (lv' := [(0, .ref v0), (1, .int v1), (2, .int v2), (3, .int v3), (4, .int v4), (5, .int v5), (6, .int (0 : Int32))]) [1, 2, 3, 4, 5, 6, 0] rfl ?_
  exact tX5_count_90 hE hrec59 k9 _ _ _ _ _ _ _ _ h
def fX5_count_59 (x9 : Cx) (k9 : Nat) : Nat → Nat → Int32 → Int32 → Int32 → Int32 → Int32 → Mm → Option (Int32 × Mm)
  | 0, _, _, _, _, _, _, _ => none
  | n9 + 1, v0, v1, v2, v3, v4, v5, M => if mK M v0 = 6 then if (mV M v0 5) ≤ v5 then some (v4, M) else if v5 = v1 then fX5_count_87 x9 k9 (fX5_count_59 x9 k9 n9) v0 v1 v2 v3 v4 v5 M else if mK M v0 = 6 then ob2 (fX5_sees x9 k9 v0 v1 v5 M) (fun r4 M5 => if r4 = 0 then fX5_count_152 x9 k9 (fX5_count_59 x9 k9 n9) v0 v1 v2 v3 v4 v5 M5 else fX5_count_87 x9 k9 (fX5_count_59 x9 k9 n9) v0 v1 v2 v3 v4 v5 M5) else none else none
set_option maxRecDepth 100000 in
set_option maxHeartbeats 4000000 in
theorem tX5_count_59 {x9 : Cx} {K : Ct} {k9 : Nat} {M0 M9 : Mm} {r9 : Int32} (hE : Ce x9 K RX5 cX5_count 7 (some .int) 1 22 "count" M0) : ∀ (n9 : Nat) (v0 : Nat) (v1 : Int32) (v2 : Int32) (v3 : Int32) (v4 : Int32) (v5 : Int32) (M : Mm), fX5_count_59 x9 k9 n9 v0 v1 v2 v3 v4 v5 M = some (r9, M9) → Go x9 K 7 (Qf x9 K M0 (some (.int r9)) M9) 59 [(0, .ref v0), (1, .int v1), (2, .int v2), (3, .int v3), (4, .int v4), (5, .int v5)] [] M := by
  have hC := hE.1
  have hnm := hE.2.2.2.2.2.2.2.1
  intro n9
  induction n9 with
  | zero => intro _ _ _ _ _ _ _ h; cases h
  | succ n9 ih =>
    intro v0 v1 v2 v3 v4 v5 M h
    rw [fX5_count_59] at h
    refine go_iload hC dX5_count_59 5 rfl ?_
    refine go_aload_n hC dX5_count_61 rfl 0 rfl ?_
    obtain ⟨h1, h⟩ := os_1 h
    refine go_getV 5 hC h1 rfl rfl (C := RX5) (T := TX5) (N := 28) rfl inlX5 (by decide) m_103 (Or.inl rfl) dX5_count_62 ?_
    refine go_icmp_ge (t := 158) hC dX5_count_65 (by decide) (fun c2 => ?_) (fun c2 => ?_)
    · have h := os_t h c2
      refine go_iload hC dX5_count_158 4 rfl ?_
      cases h
      exact go_iret hE dX5_count_160
    · have h := os_f h c2
      refine go_iload hC dX5_count_68 5 rfl ?_
      refine go_iload_n hC dX5_count_70 rfl 1 rfl ?_
      refine go_icmp_eq (t := 87) hC dX5_count_71 (by decide) (fun c3 => ?_) (fun c3 => ?_)
      · have h := os_t h c3
        exact tX5_count_87 hE ih _ _ _ _ _ _ _ h
      · have h := os_f h c3
        refine go_aload_n hC dX5_count_74 rfl 0 rfl ?_
        refine go_iload_n hC dX5_count_75 rfl 1 rfl ?_
        refine go_iload hC dX5_count_76 5 rfl ?_
        obtain ⟨h7, h⟩ := os_1 h
        obtain ⟨r4, M5, h6, h⟩ := os_c h
        refine go_callV (bytes := cX5_sees) (maxL := 3) (ret := (some .boolean)) (n := 2) (As := [.int v1, .int v5]) (st := []) hE (c_X5_sees K.2.1 h6) (by unfold okY; decide +kernel) rfl h7 rfl (C := RX5) (T := TX5) (N := 28) rfl m_312 m_309 m_310 m_311 m_5 rfl (by simp [Value.category]) (by decide) (by decide) dX5_count_78 ?_
        refine go_eq (pc' := 81) (st' := [.int r4]) (M' := M5) (lv' := [(0, .ref v0), (1, .int v1), (2, .int v2), (3, .int v3), (4, .int v4), (5, .int v5)]) ?_ rfl rfl rfl rfl
        refine go_if_ne (t := 87) hC dX5_count_81 (by decide) (fun c8 => ?_) (fun c8 => ?_)
        · have h := os_f h c8
          exact tX5_count_87 hE ih _ _ _ _ _ _ _ h
        · have h := os_t h c8
          refine go_goto (t := 152) hC dX5_count_84 (by decide) ?_
          exact tX5_count_152 hE ih _ _ _ _ _ _ _ h
def fX5_count_44 (x9 : Cx) (k9 : Nat) (v0 : Nat) (v1 : Int32) (v2 : Int32) (v3 : Int32) (s0 : Nat) (s1 : Int32) (M : Mm) : Option (Int32 × Mm) :=
  if mK M s0 = 6 then ob2 (fX5_fails x9 k9 s0 s1 (2 : Int32) M) (fun r1 M2 => if r1 = 0 then fX5_count_59 x9 k9 k9 v0 v1 v2 v3 (0 : Int32) (0 : Int32) M2 else fX5_count_51 x9 k9 M2) else none
set_option maxRecDepth 100000 in
set_option maxHeartbeats 4000000 in
theorem tX5_count_44 {x9 : Cx} {K : Ct} {k9 : Nat} {M0 M9 : Mm} {r9 : Int32} (hE : Ce x9 K RX5 cX5_count 7 (some .int) 1 22 "count" M0) (v0 : Nat) (v1 : Int32) (v2 : Int32) (v3 : Int32) (s0 : Nat) (s1 : Int32) (M : Mm) (h : fX5_count_44 x9 k9 v0 v1 v2 v3 s0 s1 M = some (r9, M9)) : Go x9 K 7 (Qf x9 K M0 (some (.int r9)) M9) 44 [(0, .ref v0), (1, .int v1), (2, .int v2), (3, .int v3)] [.int s1, .ref s0] M := by
  have hC := hE.1
  have hnm := hE.2.2.2.2.2.2.2.1
  unfold fX5_count_44 at h
  refine go_iconst hC dX5_count_44 (v := (2 : Int32)) (by decide +kernel) ?_
  obtain ⟨h4, h⟩ := os_1 h
  obtain ⟨r1, M2, h3, h⟩ := os_c h
  refine go_callV (bytes := cX5_fails) (maxL := 3) (ret := (some .boolean)) (n := 2) (As := [.int s1, .int (2 : Int32)]) (st := []) hE (c_X5_fails K.2.1 h3) (by unfold okY; decide +kernel) rfl h4 rfl (C := RX5) (T := TX5) (N := 28) rfl m_127 m_124 m_125 m_126 m_5 rfl (by simp [Value.category]) (by decide) (by decide) dX5_count_45 ?_
  refine go_eq (pc' := 48) (st' := [.int r1]) (M' := M2) (lv' := [(0, .ref v0), (1, .int v1), (2, .int v2), (3, .int v3)]) ?_ rfl rfl rfl rfl
  refine go_if_eq (t := 53) hC dX5_count_48 (by decide) (fun c5 => ?_) (fun c5 => ?_)
  · have h := os_t h c5
    refine go_iconst hC dX5_count_53 (v := (0 : Int32)) (by decide +kernel) ?_
    refine go_istore (lv' := [(4, .int (0 : Int32)), (0, .ref v0), (1, .int v1), (2, .int v2), (3, .int v3)]) hC dX5_count_54 (by decide) rfl ?_
    refine go_iconst hC dX5_count_56 (v := (0 : Int32)) (by decide +kernel) ?_
    refine go_istore (lv' := [(5, .int (0 : Int32)), (4, .int (0 : Int32)), (0, .ref v0), (1, .int v1), (2, .int v2), (3, .int v3)]) hC dX5_count_57 (by decide) rfl ?_
    refine go_sub (lv' := [(0, .ref v0), (1, .int v1), (2, .int v2), (3, .int v3), (4, .int (0 : Int32)), (5, .int (0 : Int32))]) [2, 3, 4, 5, 1, 0] rfl ?_
    exact tX5_count_59 hE k9 _ _ _ _ _ _ _ h
  · have h := os_f h c5
    refine go_sub (lv' := []) [] rfl ?_
    exact tX5_count_51 hE _ h
def fX5_count_22 (x9 : Cx) (k9 : Nat) (v0 : Nat) (v1 : Int32) (v2 : Int32) (v3 : Int32) (s0 : Nat) (s1 : Int32) (M : Mm) : Option (Int32 × Mm) :=
  if mK M s0 = 6 then ob2 (fX5_fails x9 k9 s0 s1 (1 : Int32) M) (fun r1 M2 => if r1 = 0 then if mK M2 v0 = 6 then ob1 (mP M2 v0 7) (fun b7 => if mK M2 b7 = 8 ∧ ¬ (v1 < 0 ∨ mN M2 b7 ≤ (v1).toNatClampNeg) then if (mV M2 b7 (v1).toNatClampNeg) = 0 then fX5_count_44 x9 k9 v0 v1 v2 v3 v0 (0 : Int32) M2 else fX5_count_44 x9 k9 v0 v1 v2 v3 v0 (1 : Int32) M2 else none) else none else fX5_count_51 x9 k9 M2) else none
set_option maxRecDepth 100000 in
set_option maxHeartbeats 4000000 in
theorem tX5_count_22 {x9 : Cx} {K : Ct} {k9 : Nat} {M0 M9 : Mm} {r9 : Int32} (hE : Ce x9 K RX5 cX5_count 7 (some .int) 1 22 "count" M0) (v0 : Nat) (v1 : Int32) (v2 : Int32) (v3 : Int32) (s0 : Nat) (s1 : Int32) (M : Mm) (h : fX5_count_22 x9 k9 v0 v1 v2 v3 s0 s1 M = some (r9, M9)) : Go x9 K 7 (Qf x9 K M0 (some (.int r9)) M9) 22 [(0, .ref v0), (1, .int v1), (2, .int v2), (3, .int v3)] [.int s1, .ref s0] M := by
  have hC := hE.1
  have hnm := hE.2.2.2.2.2.2.2.1
  unfold fX5_count_22 at h
  refine go_iconst hC dX5_count_22 (v := (1 : Int32)) (by decide +kernel) ?_
  obtain ⟨h4, h⟩ := os_1 h
  obtain ⟨r1, M2, h3, h⟩ := os_c h
  refine go_callV (bytes := cX5_fails) (maxL := 3) (ret := (some .boolean)) (n := 2) (As := [.int s1, .int (1 : Int32)]) (st := []) hE (c_X5_fails K.2.1 h3) (by unfold okY; decide +kernel) rfl h4 rfl (C := RX5) (T := TX5) (N := 28) rfl m_127 m_124 m_125 m_126 m_5 rfl (by simp [Value.category]) (by decide) (by decide) dX5_count_23 ?_
  refine go_eq (pc' := 26) (st' := [.int r1]) (M' := M2) (lv' := [(0, .ref v0), (1, .int v1), (2, .int v2), (3, .int v3)]) ?_ rfl rfl rfl rfl
  refine go_if_ne (t := 51) hC dX5_count_26 (by decide) (fun c5 => ?_) (fun c5 => ?_)
  · have h := os_f h c5
    refine go_sub (lv' := []) [] rfl ?_
    exact tX5_count_51 hE _ h
  · have h := os_t h c5
    refine go_aload_n hC dX5_count_29 rfl 0 rfl ?_
    refine go_aload_n hC dX5_count_30 rfl 0 rfl ?_
    obtain ⟨h6, h⟩ := os_1 h
    obtain ⟨b7, h8, h⟩ := os_b h
    refine go_getR 7 hC h6 rfl rfl h8 (C := RX5) (T := TX5) (N := 28) rfl inlX5 (by decide) m_81 (Or.inl rfl) dX5_count_31 ?_
    refine go_iload_n hC dX5_count_34 rfl 1 rfl ?_
    obtain ⟨h9, h⟩ := os_1 h
    refine go_iald hC h9.1 h9.2 dX5_count_35 ?_
    refine go_if_eq (t := 43) hC dX5_count_36 (by decide) (fun c10 => ?_) (fun c10 => ?_)
    · have h := os_t h c10
      refine go_iconst hC dX5_count_43 (v := (0 : Int32)) (by decide +kernel) ?_
      exact tX5_count_44 hE _ _ _ _ _ _ _ h
    · have h := os_f h c10
      refine go_iconst hC dX5_count_39 (v := (1 : Int32)) (by decide +kernel) ?_
      refine go_goto (t := 44) hC dX5_count_40 (by decide) ?_
      exact tX5_count_44 hE _ _ _ _ _ _ _ h
def fX5_count_17 (x9 : Cx) (k9 : Nat) (v0 : Nat) (v1 : Int32) (v2 : Int32) (v3 : Int32) (s0 : Nat) (M : Mm) : Option (Int32 × Mm) :=
  fX5_count_22 x9 k9 v0 v1 v2 v3 s0 (1 : Int32) M
set_option maxRecDepth 100000 in
set_option maxHeartbeats 4000000 in
theorem tX5_count_17 {x9 : Cx} {K : Ct} {k9 : Nat} {M0 M9 : Mm} {r9 : Int32} (hE : Ce x9 K RX5 cX5_count 7 (some .int) 1 22 "count" M0) (v0 : Nat) (v1 : Int32) (v2 : Int32) (v3 : Int32) (s0 : Nat) (M : Mm) (h : fX5_count_17 x9 k9 v0 v1 v2 v3 s0 M = some (r9, M9)) : Go x9 K 7 (Qf x9 K M0 (some (.int r9)) M9) 17 [(0, .ref v0), (1, .int v1), (2, .int v2), (3, .int v3)] [.ref s0] M := by
  have hC := hE.1
  have hnm := hE.2.2.2.2.2.2.2.1
  unfold fX5_count_17 at h
  refine go_iconst hC dX5_count_17 (v := (1 : Int32)) (by decide +kernel) ?_
  refine go_goto (t := 22) hC dX5_count_18 (by decide) ?_
  exact tX5_count_22 hE _ _ _ _ _ _ _ h
def fX5_count (x9 : Cx) (k9 : Nat) (v0 : Nat) (v1 : Int32) (v2 : Int32) (v3 : Int32) (M : Mm) : Option (Int32 × Mm) :=
  if mK M v0 = 6 then ob2 (fX5_isOne x9 k9 v0 v1 M) (fun r1 M2 => if r1 = 0 then fX5_count_17 x9 k9 v0 v1 v2 v3 v0 M2 else ob2 (fX5_isElement x9 k9 v2 v3 M2) (fun r6 M7 => if r6 = 0 then fX5_count_17 x9 k9 v0 v1 v2 v3 v0 M7 else fX5_count_22 x9 k9 v0 v1 v2 v3 v0 (0 : Int32) M7)) else none
set_option maxRecDepth 100000 in
set_option maxHeartbeats 4000000 in
theorem tX5_count_0 {x9 : Cx} {K : Ct} {k9 : Nat} {M0 M9 : Mm} {r9 : Int32} (hE : Ce x9 K RX5 cX5_count 7 (some .int) 1 22 "count" M0) (v0 : Nat) (v1 : Int32) (v2 : Int32) (v3 : Int32) (M : Mm) (h : fX5_count x9 k9 v0 v1 v2 v3 M = some (r9, M9)) : Go x9 K 7 (Qf x9 K M0 (some (.int r9)) M9) 0 [(0, .ref v0), (1, .int v1), (2, .int v2), (3, .int v3)] [] M := by
  have hC := hE.1
  have hnm := hE.2.2.2.2.2.2.2.1
  unfold fX5_count at h
  refine go_aload_n hC dX5_count_0 rfl 0 rfl ?_
  refine go_aload_n hC dX5_count_1 rfl 0 rfl ?_
  refine go_iload_n hC dX5_count_2 rfl 1 rfl ?_
  obtain ⟨h4, h⟩ := os_1 h
  obtain ⟨r1, M2, h3, h⟩ := os_c h
  refine go_callV (bytes := cX5_isOne) (maxL := 2) (ret := (some .boolean)) (n := 1) (As := [.int v1]) (st := [.ref v0]) hE (c_X5_isOne K.2.1 h3) (by unfold okY; decide +kernel) rfl h4 rfl (C := RX5) (T := TX5) (N := 28) rfl m_301 m_298 m_299 m_300 m_5 rfl (by simp [Value.category]) (by decide) (by decide) dX5_count_3 ?_
  refine go_eq (pc' := 6) (st' := [.int r1, .ref v0]) (M' := M2) (lv' := [(0, .ref v0), (1, .int v1), (2, .int v2), (3, .int v3)]) ?_ rfl rfl rfl rfl
  refine go_if_eq (t := 17) hC dX5_count_6 (by decide) (fun c5 => ?_) (fun c5 => ?_)
  · have h := os_t h c5
    exact tX5_count_17 hE _ _ _ _ _ _ h
  · have h := os_f h c5
    refine go_iload_n hC dX5_count_9 rfl 2 rfl ?_
    refine go_iload_n hC dX5_count_10 rfl 3 rfl ?_
    obtain ⟨r6, M7, h8, h⟩ := os_c h
    refine go_callS (bytes := cX5_isElement) (maxL := 2) (ret := (some .boolean)) (n := 2) (As := [.int v2, .int v3]) (st := [.ref v0]) hE (c_X5_isElement K.2.1 h8) (by unfold okY; decide +kernel) rfl m_362 m_360 m_361 m_5 rfl (by simp [Value.category]) (by decide) (by decide) dX5_count_11 ?_
    refine go_eq (pc' := 14) (st' := [.int r6, .ref v0]) (M' := M7) (lv' := [(0, .ref v0), (1, .int v1), (2, .int v2), (3, .int v3)]) ?_ rfl rfl rfl rfl
    refine go_if_ne (t := 21) hC dX5_count_14 (by decide) (fun c10 => ?_) (fun c10 => ?_)
    · have h := os_f h c10
      refine go_iconst hC dX5_count_21 (v := (0 : Int32)) (by decide +kernel) ?_
      exact tX5_count_22 hE _ _ _ _ _ _ _ h
    · have h := os_t h c10
      exact tX5_count_17 hE _ _ _ _ _ _ h
theorem c_X5_count (l : Launch) {x9 : Cx} {k9 : Nat} {M M9 : Mm} {r9 : Int32} {v0 : Nat} {v1 : Int32} {v2 : Int32} {v3 : Int32} (h : fX5_count x9 k9 v0 v1 v2 v3 M = some (r9, M9)) : Fn l x9 yX5_count cX5_count 7 (some .int) 1 22 [.ref v0, .int v1, .int v2, .int v3] M (some (.int r9)) M9 :=
  Fn.of (by decide +kernel) (Nat.le_of_ble_eq_true rfl) rfl (fun K _ hE => tX5_count_0 hE _ _ _ _ _ h)
/-! X5_fits -/
def fX5_fits_86 (x9 : Cx) (k9 : Nat) (rec35 : Nat → Int32 → Int32 → Int32 → Int32 → Int32 → Mm → Option (Int32 × Mm)) (v0 : Nat) (v1 : Int32) (v2 : Int32) (v3 : Int32) (v5 : Int32) (v6 : Int32) (M : Mm) : Option (Int32 × Mm) :=
  rec35 v0 v1 v2 v3 v5 (v6 + 1) M
set_option maxRecDepth 100000 in
set_option maxHeartbeats 4000000 in
theorem tX5_fits_86 {x9 : Cx} {K : Ct} {k9 : Nat} {M0 M9 : Mm} {r9 : Int32} (hE : Ce x9 K RX5 cX5_fits 7 (some .boolean) 1 22 "fits" M0) {rec35 : Nat → Int32 → Int32 → Int32 → Int32 → Int32 → Mm → Option (Int32 × Mm)} (hrec35 : ∀ (v0 : Nat) (v1 : Int32) (v2 : Int32) (v3 : Int32) (v5 : Int32) (v6 : Int32) (M : Mm), rec35 v0 v1 v2 v3 v5 v6 M = some (r9, M9) → Go x9 K 7 (Qf x9 K M0 (some (.int r9)) M9) 35 [(0, .ref v0), (1, .int v1), (2, .int v2), (3, .int v3), (5, .int v5), (6, .int v6)] [] M) (v0 : Nat) (v1 : Int32) (v2 : Int32) (v3 : Int32) (v5 : Int32) (v6 : Int32) (M : Mm) (h : fX5_fits_86 x9 k9 rec35 v0 v1 v2 v3 v5 v6 M = some (r9, M9)) : Go x9 K 7 (Qf x9 K M0 (some (.int r9)) M9) 86 [(0, .ref v0), (1, .int v1), (2, .int v2), (3, .int v3), (5, .int v5), (6, .int v6)] [] M := by
  have hC := hE.1
  have hnm := hE.2.2.2.2.2.2.2.1
  unfold fX5_fits_86 at h
  refine go_iinc (q := 5) (v := (v6 + 1)) (lv' := [(6, .int (v6 + 1)), (0, .ref v0), (1, .int v1), (2, .int v2), (3, .int v3), (5, .int v5)]) hC dX5_fits_86 rfl rfl (by decide) rfl ?_
  refine go_goto (t := 35) hC dX5_fits_89 (by decide) ?_
  refine go_sub (lv' := [(0, .ref v0), (1, .int v1), (2, .int v2), (3, .int v3), (5, .int v5), (6, .int (v6 + 1))]) [1, 2, 3, 4, 5, 0] rfl ?_
  exact hrec35 _ _ _ _ _ _ _ h
def fX5_fits_35 (x9 : Cx) (k9 : Nat) : Nat → Nat → Int32 → Int32 → Int32 → Int32 → Int32 → Mm → Option (Int32 × Mm)
  | 0, _, _, _, _, _, _, _ => none
  | n9 + 1, v0, v1, v2, v3, v5, v6, M => if mK M v0 = 6 then if (mV M v0 5) ≤ v6 then if v5 = 0 ∨ v5 = 1 then some (v5, M) else none else if mK M v0 = 6 then ob1 (mP M v0 10) (fun b5 => if mK M b5 = 8 ∧ ¬ ((((5 : Int32) * v6) + v2) < 0 ∨ mN M b5 ≤ ((((5 : Int32) * v6) + v2)).toNatClampNeg) then if (mV M b5 ((((5 : Int32) * v6) + v2)).toNatClampNeg) ≤ 0 then fX5_fits_86 x9 k9 (fX5_fits_35 x9 k9 n9) v0 v1 v2 v3 v5 v6 M else if mK M v0 = 6 then ob1 (mP M v0 15) (fun b10 => if mK M b10 = 9 ∧ ¬ ((((20 : Int32) * v6) + v3) < 0 ∨ mN M b10 ≤ ((((20 : Int32) * v6) + v3)).toNatClampNeg) then if (mV M b10 ((((20 : Int32) * v6) + v3)).toNatClampNeg) = 0 then fX5_fits_86 x9 k9 (fX5_fits_35 x9 k9 n9) v0 v1 v2 v3 v5 v6 M else if mK M v0 = 6 then ob2 (fX5_sees x9 k9 v0 v1 v6 M) (fun r14 M15 => if r14 = 0 then fX5_fits_86 x9 k9 (fX5_fits_35 x9 k9 n9) v0 v1 v2 v3 (0 : Int32) v6 M15 else fX5_fits_86 x9 k9 (fX5_fits_35 x9 k9 n9) v0 v1 v2 v3 v5 v6 M15) else none else none) else none else none) else none else none
set_option maxRecDepth 100000 in
set_option maxHeartbeats 4000000 in
theorem tX5_fits_35 {x9 : Cx} {K : Ct} {k9 : Nat} {M0 M9 : Mm} {r9 : Int32} (hE : Ce x9 K RX5 cX5_fits 7 (some .boolean) 1 22 "fits" M0) : ∀ (n9 : Nat) (v0 : Nat) (v1 : Int32) (v2 : Int32) (v3 : Int32) (v5 : Int32) (v6 : Int32) (M : Mm), fX5_fits_35 x9 k9 n9 v0 v1 v2 v3 v5 v6 M = some (r9, M9) → Go x9 K 7 (Qf x9 K M0 (some (.int r9)) M9) 35 [(0, .ref v0), (1, .int v1), (2, .int v2), (3, .int v3), (5, .int v5), (6, .int v6)] [] M := by
  have hC := hE.1
  have hnm := hE.2.2.2.2.2.2.2.1
  intro n9
  induction n9 with
  | zero => intro _ _ _ _ _ _ _ h; cases h
  | succ n9 ih =>
    intro v0 v1 v2 v3 v5 v6 M h
    rw [fX5_fits_35] at h
    refine go_iload hC dX5_fits_35 5 rfl ?_
    refine go_aload_n hC dX5_fits_37 rfl 0 rfl ?_
    obtain ⟨h1, h⟩ := os_1 h
    refine go_getV 5 hC h1 rfl rfl (C := RX5) (T := TX5) (N := 28) rfl inlX5 (by decide) m_103 (Or.inl rfl) dX5_fits_38 ?_
    refine go_icmp_ge (t := 92) hC dX5_fits_41 (by decide) (fun c2 => ?_) (fun c2 => ?_)
    · have h := os_t h c2
      refine go_iload hC dX5_fits_92 4 rfl ?_
      obtain ⟨h3, h⟩ := os_1 h
      cases h
      exact go_zret hE h3 dX5_fits_94
    · have h := os_f h c2
      refine go_aload_n hC dX5_fits_44 rfl 0 rfl ?_
      obtain ⟨h4, h⟩ := os_1 h
      obtain ⟨b5, h6, h⟩ := os_b h
      refine go_getR 10 hC h4 rfl rfl h6 (C := RX5) (T := TX5) (N := 28) rfl inlX5 (by decide) m_84 (Or.inl rfl) dX5_fits_45 ?_
      refine go_iconst hC dX5_fits_48 (v := (5 : Int32)) (by decide +kernel) ?_
      refine go_iload hC dX5_fits_49 5 rfl ?_
      refine go_imul hC dX5_fits_51 ?_
      refine go_iload_n hC dX5_fits_52 rfl 2 rfl ?_
      refine go_iadd hC dX5_fits_53 ?_
      obtain ⟨h7, h⟩ := os_1 h
      refine go_iald hC h7.1 h7.2 dX5_fits_54 ?_
      refine go_if_le (t := 86) hC dX5_fits_55 (by decide) (fun c8 => ?_) (fun c8 => ?_)
      · have h := os_t h c8
        exact tX5_fits_86 hE ih _ _ _ _ _ _ _ h
      · have h := os_f h c8
        refine go_aload_n hC dX5_fits_58 rfl 0 rfl ?_
        obtain ⟨h9, h⟩ := os_1 h
        obtain ⟨b10, h11, h⟩ := os_b h
        refine go_getR 15 hC h9 rfl rfl h11 (C := RX5) (T := TX5) (N := 28) rfl inlX5 (by decide) m_89 (Or.inl rfl) dX5_fits_59 ?_
        refine go_bipush hC dX5_fits_62 (v := (20 : Int32)) (by decide +kernel) ?_
        refine go_iload hC dX5_fits_64 5 rfl ?_
        refine go_imul hC dX5_fits_66 ?_
        refine go_iload_n hC dX5_fits_67 rfl 3 rfl ?_
        refine go_iadd hC dX5_fits_68 ?_
        obtain ⟨h12, h⟩ := os_1 h
        refine go_zald hC h12.1 h12.2 dX5_fits_69 ?_
        refine go_if_eq (t := 86) hC dX5_fits_70 (by decide) (fun c13 => ?_) (fun c13 => ?_)
        · have h := os_t h c13
          exact tX5_fits_86 hE ih _ _ _ _ _ _ _ h
        · have h := os_f h c13
          refine go_aload_n hC dX5_fits_73 rfl 0 rfl ?_
          refine go_iload_n hC dX5_fits_74 rfl 1 rfl ?_
          refine go_iload hC dX5_fits_75 5 rfl ?_
          obtain ⟨h17, h⟩ := os_1 h
          obtain ⟨r14, M15, h16, h⟩ := os_c h
          refine go_callV (bytes := cX5_sees) (maxL := 3) (ret := (some .boolean)) (n := 2) (As := [.int v1, .int v6]) (st := []) hE (c_X5_sees K.2.1 h16) (by unfold okY; decide +kernel) rfl h17 rfl (C := RX5) (T := TX5) (N := 28) rfl m_312 m_309 m_310 m_311 m_5 rfl (by simp [Value.category]) (by decide) (by decide) dX5_fits_77 ?_
          refine go_eq (pc' := 80) (st' := [.int r14]) (M' := M15) (lv' := [(0, .ref v0), (1, .int v1), (2, .int v2), (3, .int v3), (5, .int v5), (6, .int v6)]) ?_ rfl rfl rfl rfl
          refine go_if_ne (t := 86) hC dX5_fits_80 (by decide) (fun c18 => ?_) (fun c18 => ?_)
          · have h := os_f h c18
            exact tX5_fits_86 hE ih _ _ _ _ _ _ _ h
          · have h := os_t h c18
            refine go_iconst hC dX5_fits_83 (v := (0 : Int32)) (by decide +kernel) ?_
            refine go_istore (lv' := [(5, .int (0 : Int32)), (0, .ref v0), (1, .int v1), (2, .int v2), (3, .int v3), (6, .int v6)]) hC dX5_fits_84 (by decide) rfl ?_
            refine go_sub (lv' := [(0, .ref v0), (1, .int v1), (2, .int v2), (3, .int v3), (5, .int (0 : Int32)), (6, .int v6)]) [1, 2, 3, 4, 0, 5] rfl ?_
            exact tX5_fits_86 hE ih _ _ _ _ _ _ _ h
def fX5_fits_30 (x9 : Cx) (k9 : Nat) (v0 : Nat) (v1 : Int32) (v2 : Int32) (v3 : Int32) (s0 : Int32) (M : Mm) : Option (Int32 × Mm) :=
  fX5_fits_35 x9 k9 k9 v0 v1 v2 v3 s0 (0 : Int32) M
set_option maxRecDepth 100000 in
set_option maxHeartbeats 4000000 in
theorem tX5_fits_30 {x9 : Cx} {K : Ct} {k9 : Nat} {M0 M9 : Mm} {r9 : Int32} (hE : Ce x9 K RX5 cX5_fits 7 (some .boolean) 1 22 "fits" M0) (v0 : Nat) (v1 : Int32) (v2 : Int32) (v3 : Int32) (s0 : Int32) (M : Mm) (h : fX5_fits_30 x9 k9 v0 v1 v2 v3 s0 M = some (r9, M9)) : Go x9 K 7 (Qf x9 K M0 (some (.int r9)) M9) 30 [(0, .ref v0), (1, .int v1), (2, .int v2), (3, .int v3)] [.int s0] M := by
  have hC := hE.1
  have hnm := hE.2.2.2.2.2.2.2.1
  unfold fX5_fits_30 at h
  refine go_istore (lv' := [(5, .int s0), (0, .ref v0), (1, .int v1), (2, .int v2), (3, .int v3)]) hC dX5_fits_30 (by decide) rfl ?_
  refine go_iconst hC dX5_fits_32 (v := (0 : Int32)) (by decide +kernel) ?_
  refine go_istore (lv' := [(6, .int (0 : Int32)), (5, .int s0), (0, .ref v0), (1, .int v1), (2, .int v2), (3, .int v3)]) hC dX5_fits_33 (by decide) rfl ?_
  refine go_sub (lv' := [(0, .ref v0), (1, .int v1), (2, .int v2), (3, .int v3), (5, .int s0), (6, .int (0 : Int32))]) [2, 3, 4, 5, 1, 0] rfl ?_
  exact tX5_fits_35 hE k9 _ _ _ _ _ _ _ h
def fX5_fits_25 (x9 : Cx) (k9 : Nat) (v0 : Nat) (v1 : Int32) (v2 : Int32) (v3 : Int32) (M : Mm) : Option (Int32 × Mm) :=
  fX5_fits_30 x9 k9 v0 v1 v2 v3 (1 : Int32) M
set_option maxRecDepth 100000 in
set_option maxHeartbeats 4000000 in
theorem tX5_fits_25 {x9 : Cx} {K : Ct} {k9 : Nat} {M0 M9 : Mm} {r9 : Int32} (hE : Ce x9 K RX5 cX5_fits 7 (some .boolean) 1 22 "fits" M0) (v0 : Nat) (v1 : Int32) (v2 : Int32) (v3 : Int32) (M : Mm) (h : fX5_fits_25 x9 k9 v0 v1 v2 v3 M = some (r9, M9)) : Go x9 K 7 (Qf x9 K M0 (some (.int r9)) M9) 25 [(0, .ref v0), (1, .int v1), (2, .int v2), (3, .int v3)] [] M := by
  have hC := hE.1
  have hnm := hE.2.2.2.2.2.2.2.1
  unfold fX5_fits_25 at h
  refine go_iconst hC dX5_fits_25 (v := (1 : Int32)) (by decide +kernel) ?_
  refine go_goto (t := 30) hC dX5_fits_26 (by decide) ?_
  exact tX5_fits_30 hE _ _ _ _ _ _ h
def fX5_fits (x9 : Cx) (k9 : Nat) (v0 : Nat) (v1 : Int32) (v2 : Int32) (v3 : Int32) (M : Mm) : Option (Int32 × Mm) :=
  if mK M v0 = 6 then ob1 (mP M v0 3) (fun b2 => if mK M b2 = 8 ∧ ¬ ((((20 : Int32) * v2) + v3) < 0 ∨ mN M b2 ≤ ((((20 : Int32) * v2) + v3)).toNatClampNeg) then if (mV M b2 ((((20 : Int32) * v2) + v3)).toNatClampNeg) = (-1 : Int32) then fX5_fits_25 x9 k9 v0 v1 v2 v3 M else if (mV M b2 ((((20 : Int32) * v2) + v3)).toNatClampNeg) = v1 then fX5_fits_25 x9 k9 v0 v1 v2 v3 M else fX5_fits_30 x9 k9 v0 v1 v2 v3 (0 : Int32) M else none) else none
set_option maxRecDepth 100000 in
set_option maxHeartbeats 4000000 in
theorem tX5_fits_0 {x9 : Cx} {K : Ct} {k9 : Nat} {M0 M9 : Mm} {r9 : Int32} (hE : Ce x9 K RX5 cX5_fits 7 (some .boolean) 1 22 "fits" M0) (v0 : Nat) (v1 : Int32) (v2 : Int32) (v3 : Int32) (M : Mm) (h : fX5_fits x9 k9 v0 v1 v2 v3 M = some (r9, M9)) : Go x9 K 7 (Qf x9 K M0 (some (.int r9)) M9) 0 [(0, .ref v0), (1, .int v1), (2, .int v2), (3, .int v3)] [] M := by
  have hC := hE.1
  have hnm := hE.2.2.2.2.2.2.2.1
  unfold fX5_fits at h
  refine go_aload_n hC dX5_fits_0 rfl 0 rfl ?_
  obtain ⟨h1, h⟩ := os_1 h
  obtain ⟨b2, h3, h⟩ := os_b h
  refine go_getR 3 hC h1 rfl rfl h3 (C := RX5) (T := TX5) (N := 28) rfl inlX5 (by decide) m_79 (Or.inl rfl) dX5_fits_1 ?_
  refine go_bipush hC dX5_fits_4 (v := (20 : Int32)) (by decide +kernel) ?_
  refine go_iload_n hC dX5_fits_6 rfl 2 rfl ?_
  refine go_imul hC dX5_fits_7 ?_
  refine go_iload_n hC dX5_fits_8 rfl 3 rfl ?_
  refine go_iadd hC dX5_fits_9 ?_
  obtain ⟨h4, h⟩ := os_1 h
  refine go_iald hC h4.1 h4.2 dX5_fits_10 ?_
  refine go_istore (lv' := [(4, .int (mV M b2 ((((20 : Int32) * v2) + v3)).toNatClampNeg)), (0, .ref v0), (1, .int v1), (2, .int v2), (3, .int v3)]) hC dX5_fits_11 (by decide) rfl ?_
  refine go_iload hC dX5_fits_13 0 rfl ?_
  refine go_iconst hC dX5_fits_15 (v := (-1 : Int32)) (by decide +kernel) ?_
  refine go_icmp_eq (t := 25) hC dX5_fits_16 (by decide) (fun c5 => ?_) (fun c5 => ?_)
  · have h := os_t h c5
    refine go_sub (lv' := [(0, .ref v0), (1, .int v1), (2, .int v2), (3, .int v3)]) [1, 2, 3, 4] rfl ?_
    exact tX5_fits_25 hE _ _ _ _ _ h
  · have h := os_f h c5
    refine go_iload hC dX5_fits_19 0 rfl ?_
    refine go_iload_n hC dX5_fits_21 rfl 2 rfl ?_
    refine go_icmp_ne (t := 29) hC dX5_fits_22 (by decide) (fun c6 => ?_) (fun c6 => ?_)
    · have h := os_f h c6
      refine go_iconst hC dX5_fits_29 (v := (0 : Int32)) (by decide +kernel) ?_
      refine go_sub (lv' := [(0, .ref v0), (1, .int v1), (2, .int v2), (3, .int v3)]) [1, 2, 3, 4] rfl ?_
      exact tX5_fits_30 hE _ _ _ _ _ _ h
    · have h := os_t h c6
      refine go_sub (lv' := [(0, .ref v0), (1, .int v1), (2, .int v2), (3, .int v3)]) [1, 2, 3, 4] rfl ?_
      exact tX5_fits_25 hE _ _ _ _ _ h
theorem c_X5_fits (l : Launch) {x9 : Cx} {k9 : Nat} {M M9 : Mm} {r9 : Int32} {v0 : Nat} {v1 : Int32} {v2 : Int32} {v3 : Int32} (h : fX5_fits x9 k9 v0 v1 v2 v3 M = some (r9, M9)) : Fn l x9 yX5_fits cX5_fits 7 (some .boolean) 1 22 [.ref v0, .int v1, .int v2, .int v3] M (some (.int r9)) M9 :=
  Fn.of (by decide +kernel) (Nat.le_of_ble_eq_true rfl) rfl (fun K _ hE => tX5_fits_0 hE _ _ _ _ _ h)
/-! X5_allFit -/
def fX5_allFit_51 (x9 : Cx) (k9 : Nat) (rec5 : Nat → Int32 → Int32 → Int32 → Int32 → Mm → Option (Int32 × Mm)) (v0 : Nat) (v1 : Int32) (v2 : Int32) (v3 : Int32) (v4 : Int32) (M : Mm) : Option (Int32 × Mm) :=
  rec5 v0 v1 v2 v3 (v4 + 1) M
set_option maxRecDepth 100000 in
set_option maxHeartbeats 4000000 in
theorem tX5_allFit_51 {x9 : Cx} {K : Ct} {k9 : Nat} {M0 M9 : Mm} {r9 : Int32} (hE : Ce x9 K RX5 cX5_allFit 5 (some .boolean) 2 48 "allFit" M0) {rec5 : Nat → Int32 → Int32 → Int32 → Int32 → Mm → Option (Int32 × Mm)} (hrec5 : ∀ (v0 : Nat) (v1 : Int32) (v2 : Int32) (v3 : Int32) (v4 : Int32) (M : Mm), rec5 v0 v1 v2 v3 v4 M = some (r9, M9) → Go x9 K 5 (Qf x9 K M0 (some (.int r9)) M9) 5 [(0, .ref v0), (1, .int v1), (2, .int v2), (3, .int v3), (4, .int v4)] [] M) (v0 : Nat) (v1 : Int32) (v2 : Int32) (v3 : Int32) (v4 : Int32) (M : Mm) (h : fX5_allFit_51 x9 k9 rec5 v0 v1 v2 v3 v4 M = some (r9, M9)) : Go x9 K 5 (Qf x9 K M0 (some (.int r9)) M9) 51 [(0, .ref v0), (1, .int v1), (2, .int v2), (3, .int v3), (4, .int v4)] [] M := by
  have hC := hE.1
  have hnm := hE.2.2.2.2.2.2.2.1
  unfold fX5_allFit_51 at h
  refine go_iinc (q := 4) (v := (v4 + 1)) (lv' := [(4, .int (v4 + 1)), (0, .ref v0), (1, .int v1), (2, .int v2), (3, .int v3)]) hC dX5_allFit_51 rfl rfl (by decide) rfl ?_
  refine go_goto (t := 5) hC dX5_allFit_54 (by decide) ?_
  refine go_sub (lv' := [(0, .ref v0), (1, .int v1), (2, .int v2), (3, .int v3), (4, .int (v4 + 1))]) [1, 2, 3, 4, 0] rfl ?_
  exact hrec5 _ _ _ _ _ _ h
def fX5_allFit_5 (x9 : Cx) (k9 : Nat) : Nat → Nat → Int32 → Int32 → Int32 → Int32 → Mm → Option (Int32 × Mm)
  | 0, _, _, _, _, _, _ => none
  | n9 + 1, v0, v1, v2, v3, v4, M => if (20 : Int32) ≤ v4 then if v3 = 0 ∨ v3 = 1 then some (v3, M) else none else if mK M v0 = 6 then ob1 (mP M v0 15) (fun b4 => if mK M b4 = 9 ∧ ¬ ((((20 : Int32) * v1) + v4) < 0 ∨ mN M b4 ≤ ((((20 : Int32) * v1) + v4)).toNatClampNeg) then if (mV M b4 ((((20 : Int32) * v1) + v4)).toNatClampNeg) = 0 then fX5_allFit_51 x9 k9 (fX5_allFit_5 x9 k9 n9) v0 v1 v2 v3 v4 M else if mK M v0 = 6 then if ¬ (mV M v0 0) = 0 then if (v4 - v4 / (mV M v0 0) * (mV M v0 0)) = v2 then if mK M v0 = 6 then ob2 (fX5_fits x9 k9 v0 v1 v2 v4 M) (fun r11 M12 => if r11 = 0 then fX5_allFit_51 x9 k9 (fX5_allFit_5 x9 k9 n9) v0 v1 v2 (0 : Int32) v4 M12 else fX5_allFit_51 x9 k9 (fX5_allFit_5 x9 k9 n9) v0 v1 v2 v3 v4 M12) else none else fX5_allFit_51 x9 k9 (fX5_allFit_5 x9 k9 n9) v0 v1 v2 v3 v4 M else none else none else none) else none
set_option maxRecDepth 100000 in
set_option maxHeartbeats 4000000 in
theorem tX5_allFit_5 {x9 : Cx} {K : Ct} {k9 : Nat} {M0 M9 : Mm} {r9 : Int32} (hE : Ce x9 K RX5 cX5_allFit 5 (some .boolean) 2 48 "allFit" M0) : ∀ (n9 : Nat) (v0 : Nat) (v1 : Int32) (v2 : Int32) (v3 : Int32) (v4 : Int32) (M : Mm), fX5_allFit_5 x9 k9 n9 v0 v1 v2 v3 v4 M = some (r9, M9) → Go x9 K 5 (Qf x9 K M0 (some (.int r9)) M9) 5 [(0, .ref v0), (1, .int v1), (2, .int v2), (3, .int v3), (4, .int v4)] [] M := by
  have hC := hE.1
  have hnm := hE.2.2.2.2.2.2.2.1
  intro n9
  induction n9 with
  | zero => intro _ _ _ _ _ _ h; cases h
  | succ n9 ih =>
    intro v0 v1 v2 v3 v4 M h
    rw [fX5_allFit_5] at h
    refine go_iload hC dX5_allFit_5 4 rfl ?_
    refine go_bipush hC dX5_allFit_7 (v := (20 : Int32)) (by decide +kernel) ?_
    refine go_icmp_ge (t := 57) hC dX5_allFit_9 (by decide) (fun c1 => ?_) (fun c1 => ?_)
    · have h := os_t h c1
      refine go_iload_n hC dX5_allFit_57 rfl 3 rfl ?_
      obtain ⟨h2, h⟩ := os_1 h
      cases h
      exact go_zret hE h2 dX5_allFit_58
    · have h := os_f h c1
      refine go_aload_n hC dX5_allFit_12 rfl 0 rfl ?_
      obtain ⟨h3, h⟩ := os_1 h
      obtain ⟨b4, h5, h⟩ := os_b h
      refine go_getR 15 hC h3 rfl rfl h5 (C := RX5) (T := TX5) (N := 28) rfl inlX5 (by decide) m_89 (Or.inl rfl) dX5_allFit_13 ?_
      refine go_bipush hC dX5_allFit_16 (v := (20 : Int32)) (by decide +kernel) ?_
      refine go_iload_n hC dX5_allFit_18 rfl 1 rfl ?_
      refine go_imul hC dX5_allFit_19 ?_
      refine go_iload hC dX5_allFit_20 4 rfl ?_
      refine go_iadd hC dX5_allFit_22 ?_
      obtain ⟨h6, h⟩ := os_1 h
      refine go_zald hC h6.1 h6.2 dX5_allFit_23 ?_
      refine go_if_eq (t := 51) hC dX5_allFit_24 (by decide) (fun c7 => ?_) (fun c7 => ?_)
      · have h := os_t h c7
        exact tX5_allFit_51 hE ih _ _ _ _ _ _ h
      · have h := os_f h c7
        refine go_iload hC dX5_allFit_27 4 rfl ?_
        refine go_aload_n hC dX5_allFit_29 rfl 0 rfl ?_
        obtain ⟨h8, h⟩ := os_1 h
        refine go_getV 0 hC h8 rfl rfl (C := RX5) (T := TX5) (N := 28) rfl inlX5 (by decide) m_75 (Or.inl rfl) dX5_allFit_30 ?_
        obtain ⟨h9, h⟩ := os_1 h
        refine go_irem hC dX5_allFit_33 h9 ?_
        refine go_iload_n hC dX5_allFit_34 rfl 2 rfl ?_
        refine go_icmp_ne (t := 51) hC dX5_allFit_35 (by decide) (fun c10 => ?_) (fun c10 => ?_)
        · have h := os_f h c10
          exact tX5_allFit_51 hE ih _ _ _ _ _ _ h
        · have h := os_t h c10
          refine go_aload_n hC dX5_allFit_38 rfl 0 rfl ?_
          refine go_iload_n hC dX5_allFit_39 rfl 1 rfl ?_
          refine go_iload_n hC dX5_allFit_40 rfl 2 rfl ?_
          refine go_iload hC dX5_allFit_41 4 rfl ?_
          obtain ⟨h14, h⟩ := os_1 h
          obtain ⟨r11, M12, h13, h⟩ := os_c h
          refine go_callV (bytes := cX5_fits) (maxL := 7) (ret := (some .boolean)) (n := 3) (As := [.int v1, .int v2, .int v4]) (st := []) hE (c_X5_fits K.2.1 h13) (by unfold okY; decide +kernel) rfl h14 rfl (C := RX5) (T := TX5) (N := 28) rfl m_487 m_484 m_485 m_486 m_5 rfl (by simp [Value.category]) (by decide) (by decide) dX5_allFit_43 ?_
          refine go_eq (pc' := 46) (st' := [.int r11]) (M' := M12) (lv' := [(0, .ref v0), (1, .int v1), (2, .int v2), (3, .int v3), (4, .int v4)]) ?_ rfl rfl rfl rfl
          refine go_if_ne (t := 51) hC dX5_allFit_46 (by decide) (fun c15 => ?_) (fun c15 => ?_)
          · have h := os_f h c15
            exact tX5_allFit_51 hE ih _ _ _ _ _ _ h
          · have h := os_t h c15
            refine go_iconst hC dX5_allFit_49 (v := (0 : Int32)) (by decide +kernel) ?_
            refine go_istore_n (lv' := [(3, .int (0 : Int32)), (0, .ref v0), (1, .int v1), (2, .int v2), (4, .int v4)]) hC dX5_allFit_50 rfl (by decide) rfl ?_
            refine go_sub (lv' := [(0, .ref v0), (1, .int v1), (2, .int v2), (3, .int (0 : Int32)), (4, .int v4)]) [1, 2, 3, 0, 4] rfl ?_
            exact tX5_allFit_51 hE ih _ _ _ _ _ _ h
def fX5_allFit (x9 : Cx) (k9 : Nat) (v0 : Nat) (v1 : Int32) (v2 : Int32) (M : Mm) : Option (Int32 × Mm) :=
  fX5_allFit_5 x9 k9 k9 v0 v1 v2 (1 : Int32) (0 : Int32) M
set_option maxRecDepth 100000 in
set_option maxHeartbeats 4000000 in
theorem tX5_allFit_0 {x9 : Cx} {K : Ct} {k9 : Nat} {M0 M9 : Mm} {r9 : Int32} (hE : Ce x9 K RX5 cX5_allFit 5 (some .boolean) 2 48 "allFit" M0) (v0 : Nat) (v1 : Int32) (v2 : Int32) (M : Mm) (h : fX5_allFit x9 k9 v0 v1 v2 M = some (r9, M9)) : Go x9 K 5 (Qf x9 K M0 (some (.int r9)) M9) 0 [(0, .ref v0), (1, .int v1), (2, .int v2)] [] M := by
  have hC := hE.1
  have hnm := hE.2.2.2.2.2.2.2.1
  unfold fX5_allFit at h
  refine go_iconst hC dX5_allFit_0 (v := (1 : Int32)) (by decide +kernel) ?_
  refine go_istore_n (lv' := [(3, .int (1 : Int32)), (0, .ref v0), (1, .int v1), (2, .int v2)]) hC dX5_allFit_1 rfl (by decide) rfl ?_
  refine go_iconst hC dX5_allFit_2 (v := (0 : Int32)) (by decide +kernel) ?_
  refine go_istore (lv' := [(4, .int (0 : Int32)), (3, .int (1 : Int32)), (0, .ref v0), (1, .int v1), (2, .int v2)]) hC dX5_allFit_3 (by decide) rfl ?_
  refine go_sub (lv' := [(0, .ref v0), (1, .int v1), (2, .int v2), (3, .int (1 : Int32)), (4, .int (0 : Int32))]) [2, 3, 4, 1, 0] rfl ?_
  exact tX5_allFit_5 hE k9 _ _ _ _ _ _ h
theorem c_X5_allFit (l : Launch) {x9 : Cx} {k9 : Nat} {M M9 : Mm} {r9 : Int32} {v0 : Nat} {v1 : Int32} {v2 : Int32} (h : fX5_allFit x9 k9 v0 v1 v2 M = some (r9, M9)) : Fn l x9 yX5_allFit cX5_allFit 5 (some .boolean) 2 48 [.ref v0, .int v1, .int v2] M (some (.int r9)) M9 :=
  Fn.of (by decide +kernel) (Nat.le_of_ble_eq_true rfl) rfl (fun K _ hE => tX5_allFit_0 hE _ _ _ _ h)
/-! X5_lock -/
def fX5_lock_44 (x9 : Cx) (k9 : Nat) (rec2 : Nat → Int32 → Int32 → Int32 → Mm → Option (Unit × Mm)) (v0 : Nat) (v1 : Int32) (v2 : Int32) (v3 : Int32) (M : Mm) : Option (Unit × Mm) :=
  rec2 v0 v1 v2 (v3 + 1) M
set_option maxRecDepth 100000 in
set_option maxHeartbeats 4000000 in
theorem tX5_lock_44 {x9 : Cx} {K : Ct} {k9 : Nat} {M0 M9 : Mm} {r9 : Unit} (hE : Ce x9 K RX5 cX5_lock 4 none 0 0 "lock" M0) {rec2 : Nat → Int32 → Int32 → Int32 → Mm → Option (Unit × Mm)} (hrec2 : ∀ (v0 : Nat) (v1 : Int32) (v2 : Int32) (v3 : Int32) (M : Mm), rec2 v0 v1 v2 v3 M = some (r9, M9) → Go x9 K 4 (Qf x9 K M0 none M9) 2 [(0, .ref v0), (1, .int v1), (2, .int v2), (3, .int v3)] [] M) (v0 : Nat) (v1 : Int32) (v2 : Int32) (v3 : Int32) (M : Mm) (h : fX5_lock_44 x9 k9 rec2 v0 v1 v2 v3 M = some (r9, M9)) : Go x9 K 4 (Qf x9 K M0 none M9) 44 [(0, .ref v0), (1, .int v1), (2, .int v2), (3, .int v3)] [] M := by
  have hC := hE.1
  have hnm := hE.2.2.2.2.2.2.2.1
  unfold fX5_lock_44 at h
  refine go_iinc (q := 3) (v := (v3 + 1)) (lv' := [(3, .int (v3 + 1)), (0, .ref v0), (1, .int v1), (2, .int v2)]) hC dX5_lock_44 rfl rfl (by decide) rfl ?_
  refine go_goto (t := 2) hC dX5_lock_47 (by decide) ?_
  refine go_sub (lv' := [(0, .ref v0), (1, .int v1), (2, .int v2), (3, .int (v3 + 1))]) [1, 2, 3, 0] rfl ?_
  exact hrec2 _ _ _ _ _ h
def fX5_lock_2 (x9 : Cx) (k9 : Nat) : Nat → Nat → Int32 → Int32 → Int32 → Mm → Option (Unit × Mm)
  | 0, _, _, _, _, _ => none
  | n9 + 1, v0, v1, v2, v3, M => if (20 : Int32) ≤ v3 then some ((), M) else if mK M v0 = 6 then ob1 (mP M v0 15) (fun b3 => if mK M b3 = 9 ∧ ¬ ((((20 : Int32) * v1) + v3) < 0 ∨ mN M b3 ≤ ((((20 : Int32) * v1) + v3)).toNatClampNeg) then if (mV M b3 ((((20 : Int32) * v1) + v3)).toNatClampNeg) = 0 then fX5_lock_44 x9 k9 (fX5_lock_2 x9 k9 n9) v0 v1 v2 v3 M else if mK M v0 = 6 then if ¬ (mV M v0 0) = 0 then if (v3 - v3 / (mV M v0 0) * (mV M v0 0)) = v2 then if mK M v0 = 6 then ob1 (mP M v0 3) (fun b11 => if mK M b11 = 8 ∧ ¬ ((((20 : Int32) * v2) + v3) < 0 ∨ mN M b11 ≤ ((((20 : Int32) * v2) + v3)).toNatClampNeg) then fX5_lock_44 x9 k9 (fX5_lock_2 x9 k9 n9) v0 v1 v2 v3 (sV M b11 ((((20 : Int32) * v2) + v3)).toNatClampNeg v1) else none) else none else fX5_lock_44 x9 k9 (fX5_lock_2 x9 k9 n9) v0 v1 v2 v3 M else none else none else none) else none
set_option maxRecDepth 100000 in
set_option maxHeartbeats 4000000 in
theorem tX5_lock_2 {x9 : Cx} {K : Ct} {k9 : Nat} {M0 M9 : Mm} {r9 : Unit} (hE : Ce x9 K RX5 cX5_lock 4 none 0 0 "lock" M0) : ∀ (n9 : Nat) (v0 : Nat) (v1 : Int32) (v2 : Int32) (v3 : Int32) (M : Mm), fX5_lock_2 x9 k9 n9 v0 v1 v2 v3 M = some (r9, M9) → Go x9 K 4 (Qf x9 K M0 none M9) 2 [(0, .ref v0), (1, .int v1), (2, .int v2), (3, .int v3)] [] M := by
  have hC := hE.1
  have hnm := hE.2.2.2.2.2.2.2.1
  intro n9
  induction n9 with
  | zero => intro _ _ _ _ _ h; cases h
  | succ n9 ih =>
    intro v0 v1 v2 v3 M h
    rw [fX5_lock_2] at h
    refine go_iload_n hC dX5_lock_2 rfl 3 rfl ?_
    refine go_bipush hC dX5_lock_3 (v := (20 : Int32)) (by decide +kernel) ?_
    refine go_icmp_ge (t := 50) hC dX5_lock_5 (by decide) (fun c1 => ?_) (fun c1 => ?_)
    · have h := os_t h c1
      cases h
      exact go_vret hE dX5_lock_50
    · have h := os_f h c1
      refine go_aload_n hC dX5_lock_8 rfl 0 rfl ?_
      obtain ⟨h2, h⟩ := os_1 h
      obtain ⟨b3, h4, h⟩ := os_b h
      refine go_getR 15 hC h2 rfl rfl h4 (C := RX5) (T := TX5) (N := 28) rfl inlX5 (by decide) m_89 (Or.inl rfl) dX5_lock_9 ?_
      refine go_bipush hC dX5_lock_12 (v := (20 : Int32)) (by decide +kernel) ?_
      refine go_iload_n hC dX5_lock_14 rfl 1 rfl ?_
      refine go_imul hC dX5_lock_15 ?_
      refine go_iload_n hC dX5_lock_16 rfl 3 rfl ?_
      refine go_iadd hC dX5_lock_17 ?_
      obtain ⟨h5, h⟩ := os_1 h
      refine go_zald hC h5.1 h5.2 dX5_lock_18 ?_
      refine go_if_eq (t := 44) hC dX5_lock_19 (by decide) (fun c6 => ?_) (fun c6 => ?_)
      · have h := os_t h c6
        exact tX5_lock_44 hE ih _ _ _ _ _ h
      · have h := os_f h c6
        refine go_iload_n hC dX5_lock_22 rfl 3 rfl ?_
        refine go_aload_n hC dX5_lock_23 rfl 0 rfl ?_
        obtain ⟨h7, h⟩ := os_1 h
        refine go_getV 0 hC h7 rfl rfl (C := RX5) (T := TX5) (N := 28) rfl inlX5 (by decide) m_75 (Or.inl rfl) dX5_lock_24 ?_
        obtain ⟨h8, h⟩ := os_1 h
        refine go_irem hC dX5_lock_27 h8 ?_
        refine go_iload_n hC dX5_lock_28 rfl 2 rfl ?_
        refine go_icmp_ne (t := 44) hC dX5_lock_29 (by decide) (fun c9 => ?_) (fun c9 => ?_)
        · have h := os_f h c9
          exact tX5_lock_44 hE ih _ _ _ _ _ h
        · have h := os_t h c9
          refine go_aload_n hC dX5_lock_32 rfl 0 rfl ?_
          obtain ⟨h10, h⟩ := os_1 h
          obtain ⟨b11, h12, h⟩ := os_b h
          refine go_getR 3 hC h10 rfl rfl h12 (C := RX5) (T := TX5) (N := 28) rfl inlX5 (by decide) m_79 (Or.inl rfl) dX5_lock_33 ?_
          refine go_bipush hC dX5_lock_36 (v := (20 : Int32)) (by decide +kernel) ?_
          refine go_iload_n hC dX5_lock_38 rfl 2 rfl ?_
          refine go_imul hC dX5_lock_39 ?_
          refine go_iload_n hC dX5_lock_40 rfl 3 rfl ?_
          refine go_iadd hC dX5_lock_41 ?_
          refine go_iload_n hC dX5_lock_42 rfl 1 rfl ?_
          obtain ⟨h13, h⟩ := os_1 h
          refine go_iast hC h13.1 h13.2 dX5_lock_43 ?_
          exact tX5_lock_44 hE ih _ _ _ _ _ h
def fX5_lock (x9 : Cx) (k9 : Nat) (v0 : Nat) (v1 : Int32) (v2 : Int32) (M : Mm) : Option (Unit × Mm) :=
  fX5_lock_2 x9 k9 k9 v0 v1 v2 (0 : Int32) M
set_option maxRecDepth 100000 in
set_option maxHeartbeats 4000000 in
theorem tX5_lock_0 {x9 : Cx} {K : Ct} {k9 : Nat} {M0 M9 : Mm} {r9 : Unit} (hE : Ce x9 K RX5 cX5_lock 4 none 0 0 "lock" M0) (v0 : Nat) (v1 : Int32) (v2 : Int32) (M : Mm) (h : fX5_lock x9 k9 v0 v1 v2 M = some (r9, M9)) : Go x9 K 4 (Qf x9 K M0 none M9) 0 [(0, .ref v0), (1, .int v1), (2, .int v2)] [] M := by
  have hC := hE.1
  have hnm := hE.2.2.2.2.2.2.2.1
  unfold fX5_lock at h
  refine go_iconst hC dX5_lock_0 (v := (0 : Int32)) (by decide +kernel) ?_
  refine go_istore_n (lv' := [(3, .int (0 : Int32)), (0, .ref v0), (1, .int v1), (2, .int v2)]) hC dX5_lock_1 rfl (by decide) rfl ?_
  refine go_sub (lv' := [(0, .ref v0), (1, .int v1), (2, .int v2), (3, .int (0 : Int32))]) [1, 2, 3, 0] rfl ?_
  exact tX5_lock_2 hE k9 _ _ _ _ _ h
theorem c_X5_lock (l : Launch) {x9 : Cx} {k9 : Nat} {M M9 : Mm} {r9 : Unit} {v0 : Nat} {v1 : Int32} {v2 : Int32} (h : fX5_lock x9 k9 v0 v1 v2 M = some (r9, M9)) : Fn l x9 yX5_lock cX5_lock 4 none 0 0 [.ref v0, .int v1, .int v2] M none M9 :=
  Fn.of (by decide +kernel) (Nat.le_of_ble_eq_true rfl) rfl (fun K _ hE => tX5_lock_0 hE _ _ _ _ h)
/-! X5_unlock -/
def fX5_unlock_35 (x9 : Cx) (k9 : Nat) (rec2 : Nat → Int32 → Int32 → Int32 → Mm → Option (Unit × Mm)) (v0 : Nat) (v1 : Int32) (v2 : Int32) (v3 : Int32) (M : Mm) : Option (Unit × Mm) :=
  rec2 v0 v1 v2 (v3 + 1) M
set_option maxRecDepth 100000 in
set_option maxHeartbeats 4000000 in
theorem tX5_unlock_35 {x9 : Cx} {K : Ct} {k9 : Nat} {M0 M9 : Mm} {r9 : Unit} (hE : Ce x9 K RX5 cX5_unlock 4 none 0 0 "unlock" M0) {rec2 : Nat → Int32 → Int32 → Int32 → Mm → Option (Unit × Mm)} (hrec2 : ∀ (v0 : Nat) (v1 : Int32) (v2 : Int32) (v3 : Int32) (M : Mm), rec2 v0 v1 v2 v3 M = some (r9, M9) → Go x9 K 4 (Qf x9 K M0 none M9) 2 [(0, .ref v0), (1, .int v1), (2, .int v2), (3, .int v3)] [] M) (v0 : Nat) (v1 : Int32) (v2 : Int32) (v3 : Int32) (M : Mm) (h : fX5_unlock_35 x9 k9 rec2 v0 v1 v2 v3 M = some (r9, M9)) : Go x9 K 4 (Qf x9 K M0 none M9) 35 [(0, .ref v0), (1, .int v1), (2, .int v2), (3, .int v3)] [] M := by
  have hC := hE.1
  have hnm := hE.2.2.2.2.2.2.2.1
  unfold fX5_unlock_35 at h
  refine go_iinc (q := 3) (v := (v3 + 1)) (lv' := [(3, .int (v3 + 1)), (0, .ref v0), (1, .int v1), (2, .int v2)]) hC dX5_unlock_35 rfl rfl (by decide) rfl ?_
  refine go_goto (t := 2) hC dX5_unlock_38 (by decide) ?_
  refine go_sub (lv' := [(0, .ref v0), (1, .int v1), (2, .int v2), (3, .int (v3 + 1))]) [1, 2, 3, 0] rfl ?_
  exact hrec2 _ _ _ _ _ h
def fX5_unlock_2 (x9 : Cx) (k9 : Nat) : Nat → Nat → Int32 → Int32 → Int32 → Mm → Option (Unit × Mm)
  | 0, _, _, _, _, _ => none
  | n9 + 1, v0, v1, v2, v3, M => if (20 : Int32) ≤ v3 then some ((), M) else if mK M v0 = 6 then ob1 (mP M v0 3) (fun b3 => if mK M b3 = 8 ∧ ¬ ((((20 : Int32) * v2) + v3) < 0 ∨ mN M b3 ≤ ((((20 : Int32) * v2) + v3)).toNatClampNeg) then if (mV M b3 ((((20 : Int32) * v2) + v3)).toNatClampNeg) = v1 then if mK M v0 = 6 then ob1 (mP M v0 3) (fun b8 => if mK M b8 = 8 ∧ ¬ ((((20 : Int32) * v2) + v3) < 0 ∨ mN M b8 ≤ ((((20 : Int32) * v2) + v3)).toNatClampNeg) then fX5_unlock_35 x9 k9 (fX5_unlock_2 x9 k9 n9) v0 v1 v2 v3 (sV M b8 ((((20 : Int32) * v2) + v3)).toNatClampNeg (-1 : Int32)) else none) else none else fX5_unlock_35 x9 k9 (fX5_unlock_2 x9 k9 n9) v0 v1 v2 v3 M else none) else none
set_option maxRecDepth 100000 in
set_option maxHeartbeats 4000000 in
theorem tX5_unlock_2 {x9 : Cx} {K : Ct} {k9 : Nat} {M0 M9 : Mm} {r9 : Unit} (hE : Ce x9 K RX5 cX5_unlock 4 none 0 0 "unlock" M0) : ∀ (n9 : Nat) (v0 : Nat) (v1 : Int32) (v2 : Int32) (v3 : Int32) (M : Mm), fX5_unlock_2 x9 k9 n9 v0 v1 v2 v3 M = some (r9, M9) → Go x9 K 4 (Qf x9 K M0 none M9) 2 [(0, .ref v0), (1, .int v1), (2, .int v2), (3, .int v3)] [] M := by
  have hC := hE.1
  have hnm := hE.2.2.2.2.2.2.2.1
  intro n9
  induction n9 with
  | zero => intro _ _ _ _ _ h; cases h
  | succ n9 ih =>
    intro v0 v1 v2 v3 M h
    rw [fX5_unlock_2] at h
    refine go_iload_n hC dX5_unlock_2 rfl 3 rfl ?_
    refine go_bipush hC dX5_unlock_3 (v := (20 : Int32)) (by decide +kernel) ?_
    refine go_icmp_ge (t := 41) hC dX5_unlock_5 (by decide) (fun c1 => ?_) (fun c1 => ?_)
    · have h := os_t h c1
      cases h
      exact go_vret hE dX5_unlock_41
    · have h := os_f h c1
      refine go_aload_n hC dX5_unlock_8 rfl 0 rfl ?_
      obtain ⟨h2, h⟩ := os_1 h
      obtain ⟨b3, h4, h⟩ := os_b h
      refine go_getR 3 hC h2 rfl rfl h4 (C := RX5) (T := TX5) (N := 28) rfl inlX5 (by decide) m_79 (Or.inl rfl) dX5_unlock_9 ?_
      refine go_bipush hC dX5_unlock_12 (v := (20 : Int32)) (by decide +kernel) ?_
      refine go_iload_n hC dX5_unlock_14 rfl 2 rfl ?_
      refine go_imul hC dX5_unlock_15 ?_
      refine go_iload_n hC dX5_unlock_16 rfl 3 rfl ?_
      refine go_iadd hC dX5_unlock_17 ?_
      obtain ⟨h5, h⟩ := os_1 h
      refine go_iald hC h5.1 h5.2 dX5_unlock_18 ?_
      refine go_iload_n hC dX5_unlock_19 rfl 1 rfl ?_
      refine go_icmp_ne (t := 35) hC dX5_unlock_20 (by decide) (fun c6 => ?_) (fun c6 => ?_)
      · have h := os_f h c6
        exact tX5_unlock_35 hE ih _ _ _ _ _ h
      · have h := os_t h c6
        refine go_aload_n hC dX5_unlock_23 rfl 0 rfl ?_
        obtain ⟨h7, h⟩ := os_1 h
        obtain ⟨b8, h9, h⟩ := os_b h
        refine go_getR 3 hC h7 rfl rfl h9 (C := RX5) (T := TX5) (N := 28) rfl inlX5 (by decide) m_79 (Or.inl rfl) dX5_unlock_24 ?_
        refine go_bipush hC dX5_unlock_27 (v := (20 : Int32)) (by decide +kernel) ?_
        refine go_iload_n hC dX5_unlock_29 rfl 2 rfl ?_
        refine go_imul hC dX5_unlock_30 ?_
        refine go_iload_n hC dX5_unlock_31 rfl 3 rfl ?_
        refine go_iadd hC dX5_unlock_32 ?_
        refine go_iconst hC dX5_unlock_33 (v := (-1 : Int32)) (by decide +kernel) ?_
        obtain ⟨h10, h⟩ := os_1 h
        refine go_iast hC h10.1 h10.2 dX5_unlock_34 ?_
        exact tX5_unlock_35 hE ih _ _ _ _ _ h
def fX5_unlock (x9 : Cx) (k9 : Nat) (v0 : Nat) (v1 : Int32) (v2 : Int32) (M : Mm) : Option (Unit × Mm) :=
  fX5_unlock_2 x9 k9 k9 v0 v1 v2 (0 : Int32) M
set_option maxRecDepth 100000 in
set_option maxHeartbeats 4000000 in
theorem tX5_unlock_0 {x9 : Cx} {K : Ct} {k9 : Nat} {M0 M9 : Mm} {r9 : Unit} (hE : Ce x9 K RX5 cX5_unlock 4 none 0 0 "unlock" M0) (v0 : Nat) (v1 : Int32) (v2 : Int32) (M : Mm) (h : fX5_unlock x9 k9 v0 v1 v2 M = some (r9, M9)) : Go x9 K 4 (Qf x9 K M0 none M9) 0 [(0, .ref v0), (1, .int v1), (2, .int v2)] [] M := by
  have hC := hE.1
  have hnm := hE.2.2.2.2.2.2.2.1
  unfold fX5_unlock at h
  refine go_iconst hC dX5_unlock_0 (v := (0 : Int32)) (by decide +kernel) ?_
  refine go_istore_n (lv' := [(3, .int (0 : Int32)), (0, .ref v0), (1, .int v1), (2, .int v2)]) hC dX5_unlock_1 rfl (by decide) rfl ?_
  refine go_sub (lv' := [(0, .ref v0), (1, .int v1), (2, .int v2), (3, .int (0 : Int32))]) [1, 2, 3, 0] rfl ?_
  exact tX5_unlock_2 hE k9 _ _ _ _ _ h
theorem c_X5_unlock (l : Launch) {x9 : Cx} {k9 : Nat} {M M9 : Mm} {r9 : Unit} {v0 : Nat} {v1 : Int32} {v2 : Int32} (h : fX5_unlock x9 k9 v0 v1 v2 M = some (r9, M9)) : Fn l x9 yX5_unlock cX5_unlock 4 none 0 0 [.ref v0, .int v1, .int v2] M none M9 :=
  Fn.of (by decide +kernel) (Nat.le_of_ble_eq_true rfl) rfl (fun K _ hE => tX5_unlock_0 hE _ _ _ _ h)
/-! X5_send -/
def fX5_send (x9 : Cx) (k9 : Nat) (v0 : Nat) (v1 : Int32) (v2 : Int32) (v3 : Int32) (v4 : Int32) (M : Mm) : Option (Unit × Mm) :=
  if mK M v0 = 6 then if mK M v0 = 6 then if mK (sV M v0 24 ((mV M v0 24) + (1 : Int32))) v0 = 6 then if (mV (sV M v0 24 ((mV M v0 24) + (1 : Int32))) v0 23) = (300 : Int32) then some ((), (sV M v0 24 ((mV M v0 24) + (1 : Int32)))) else if mK (sV M v0 24 ((mV M v0 24) + (1 : Int32))) v0 = 6 then ob1 (mP (sV M v0 24 ((mV M v0 24) + (1 : Int32))) v0 22) (fun b6 => if mK (sV M v0 24 ((mV M v0 24) + (1 : Int32))) v0 = 6 then if mK (sV M v0 24 ((mV M v0 24) + (1 : Int32))) b6 = 8 ∧ ¬ (((4 : Int32) * (mV (sV M v0 24 ((mV M v0 24) + (1 : Int32))) v0 23)) < 0 ∨ mN (sV M v0 24 ((mV M v0 24) + (1 : Int32))) b6 ≤ (((4 : Int32) * (mV (sV M v0 24 ((mV M v0 24) + (1 : Int32))) v0 23))).toNatClampNeg) then lt1 (sV (sV M v0 24 ((mV M v0 24) + (1 : Int32))) b6 (((4 : Int32) * (mV (sV M v0 24 ((mV M v0 24) + (1 : Int32))) v0 23))).toNatClampNeg v1) (fun M10 => if mK M10 v0 = 6 then ob1 (mP M10 v0 22) (fun b13 => if mK M10 v0 = 6 then if mK M10 b13 = 8 ∧ ¬ ((((4 : Int32) * (mV M10 v0 23)) + (1 : Int32)) < 0 ∨ mN M10 b13 ≤ ((((4 : Int32) * (mV M10 v0 23)) + (1 : Int32))).toNatClampNeg) then lt1 (sV M10 b13 ((((4 : Int32) * (mV M10 v0 23)) + (1 : Int32))).toNatClampNeg v2) (fun M17 => if mK M17 v0 = 6 then ob1 (mP M17 v0 22) (fun b20 => if mK M17 v0 = 6 then if mK M17 b20 = 8 ∧ ¬ ((((4 : Int32) * (mV M17 v0 23)) + (2 : Int32)) < 0 ∨ mN M17 b20 ≤ ((((4 : Int32) * (mV M17 v0 23)) + (2 : Int32))).toNatClampNeg) then lt1 (sV M17 b20 ((((4 : Int32) * (mV M17 v0 23)) + (2 : Int32))).toNatClampNeg v3) (fun M24 => if mK M24 v0 = 6 then ob1 (mP M24 v0 22) (fun b27 => if mK M24 v0 = 6 then if mK M24 b27 = 8 ∧ ¬ ((((4 : Int32) * (mV M24 v0 23)) + (3 : Int32)) < 0 ∨ mN M24 b27 ≤ ((((4 : Int32) * (mV M24 v0 23)) + (3 : Int32))).toNatClampNeg) then lt1 (sV M24 b27 ((((4 : Int32) * (mV M24 v0 23)) + (3 : Int32))).toNatClampNeg v4) (fun M31 => if mK M31 v0 = 6 then if mK M31 v0 = 6 then some ((), (sV M31 v0 23 ((mV M31 v0 23) + (1 : Int32)))) else none else none) else none else none) else none) else none else none) else none) else none else none) else none) else none else none) else none else none else none else none
set_option maxRecDepth 100000 in
set_option maxHeartbeats 4000000 in
theorem tX5_send_0 {x9 : Cx} {K : Ct} {k9 : Nat} {M0 M9 : Mm} {r9 : Unit} (hE : Ce x9 K RX5 cX5_send 5 none 0 0 "send" M0) (v0 : Nat) (v1 : Int32) (v2 : Int32) (v3 : Int32) (v4 : Int32) (M : Mm) (h : fX5_send x9 k9 v0 v1 v2 v3 v4 M = some (r9, M9)) : Go x9 K 5 (Qf x9 K M0 none M9) 0 [(0, .ref v0), (1, .int v1), (2, .int v2), (3, .int v3), (4, .int v4)] [] M := by
  have hC := hE.1
  have hnm := hE.2.2.2.2.2.2.2.1
  unfold fX5_send at h
  refine go_aload_n hC dX5_send_0 rfl 0 rfl ?_
  refine go_dup hC dX5_send_1 rfl ?_
  obtain ⟨h1, h⟩ := os_1 h
  refine go_getV 24 hC h1 rfl rfl (C := RX5) (T := TX5) (N := 28) rfl inlX5 (by decide) m_105 (Or.inl rfl) dX5_send_2 ?_
  refine go_iconst hC dX5_send_5 (v := (1 : Int32)) (by decide +kernel) ?_
  refine go_iadd hC dX5_send_6 ?_
  obtain ⟨h2, h⟩ := os_1 h
  refine go_putV 24 hC h2 rfl rfl (C := RX5) (T := TX5) (N := 28) rfl inlX5 tyX5 tyX5_ok nmX5 (by decide) m_105 (Or.inl rfl) (Or.inl rfl) (tyX5_ok 24 (by decide)) rfl rfl dX5_send_7 ?_
  refine go_aload_n hC dX5_send_10 rfl 0 rfl ?_
  obtain ⟨h3, h⟩ := os_1 h
  refine go_getV 23 hC h3 rfl rfl (C := RX5) (T := TX5) (N := 28) rfl inlX5 (by decide) m_104 (Or.inl rfl) dX5_send_11 ?_
  refine go_sipush hC dX5_send_14 (v := (300 : Int32)) (by decide +kernel) ?_
  refine go_icmp_ne (t := 21) hC dX5_send_17 (by decide) (fun c4 => ?_) (fun c4 => ?_)
  · have h := os_f h c4
    refine go_aload_n hC dX5_send_21 rfl 0 rfl ?_
    obtain ⟨h5, h⟩ := os_1 h
    obtain ⟨b6, h7, h⟩ := os_b h
    refine go_getR 22 hC h5 rfl rfl h7 (C := RX5) (T := TX5) (N := 28) rfl inlX5 (by decide) m_96 (Or.inl rfl) dX5_send_22 ?_
    refine go_iconst hC dX5_send_25 (v := (4 : Int32)) (by decide +kernel) ?_
    refine go_aload_n hC dX5_send_26 rfl 0 rfl ?_
    obtain ⟨h8, h⟩ := os_1 h
    refine go_getV 23 hC h8 rfl rfl (C := RX5) (T := TX5) (N := 28) rfl inlX5 (by decide) m_104 (Or.inl rfl) dX5_send_27 ?_
    refine go_imul hC dX5_send_30 ?_
    refine go_iload_n hC dX5_send_31 rfl 1 rfl ?_
    obtain ⟨h9, h⟩ := os_1 h
    refine go_iast hC h9.1 h9.2 dX5_send_32 ?_
    obtain ⟨M10, e11, h⟩ := os_l h
    refine go_eq (pc' := 33) (st' := []) (M' := M10) (lv' := [(0, .ref v0), (1, .int v1), (2, .int v2), (3, .int v3), (4, .int v4)]) ?_ rfl rfl rfl e11
    refine go_aload_n hC dX5_send_33 rfl 0 rfl ?_
    obtain ⟨h12, h⟩ := os_1 h
    obtain ⟨b13, h14, h⟩ := os_b h
    refine go_getR 22 hC h12 rfl rfl h14 (C := RX5) (T := TX5) (N := 28) rfl inlX5 (by decide) m_96 (Or.inl rfl) dX5_send_34 ?_
    refine go_iconst hC dX5_send_37 (v := (4 : Int32)) (by decide +kernel) ?_
    refine go_aload_n hC dX5_send_38 rfl 0 rfl ?_
    obtain ⟨h15, h⟩ := os_1 h
    refine go_getV 23 hC h15 rfl rfl (C := RX5) (T := TX5) (N := 28) rfl inlX5 (by decide) m_104 (Or.inl rfl) dX5_send_39 ?_
    refine go_imul hC dX5_send_42 ?_
    refine go_iconst hC dX5_send_43 (v := (1 : Int32)) (by decide +kernel) ?_
    refine go_iadd hC dX5_send_44 ?_
    refine go_iload_n hC dX5_send_45 rfl 2 rfl ?_
    obtain ⟨h16, h⟩ := os_1 h
    refine go_iast hC h16.1 h16.2 dX5_send_46 ?_
    obtain ⟨M17, e18, h⟩ := os_l h
    refine go_eq (pc' := 47) (st' := []) (M' := M17) (lv' := [(0, .ref v0), (1, .int v1), (2, .int v2), (3, .int v3), (4, .int v4)]) ?_ rfl rfl rfl e18
    refine go_aload_n hC dX5_send_47 rfl 0 rfl ?_
    obtain ⟨h19, h⟩ := os_1 h
    obtain ⟨b20, h21, h⟩ := os_b h
    refine go_getR 22 hC h19 rfl rfl h21 (C := RX5) (T := TX5) (N := 28) rfl inlX5 (by decide) m_96 (Or.inl rfl) dX5_send_48 ?_
    refine go_iconst hC dX5_send_51 (v := (4 : Int32)) (by decide +kernel) ?_
    refine go_aload_n hC dX5_send_52 rfl 0 rfl ?_
    obtain ⟨h22, h⟩ := os_1 h
    refine go_getV 23 hC h22 rfl rfl (C := RX5) (T := TX5) (N := 28) rfl inlX5 (by decide) m_104 (Or.inl rfl) dX5_send_53 ?_
    refine go_imul hC dX5_send_56 ?_
    refine go_iconst hC dX5_send_57 (v := (2 : Int32)) (by decide +kernel) ?_
    refine go_iadd hC dX5_send_58 ?_
    refine go_iload_n hC dX5_send_59 rfl 3 rfl ?_
    obtain ⟨h23, h⟩ := os_1 h
    refine go_iast hC h23.1 h23.2 dX5_send_60 ?_
    obtain ⟨M24, e25, h⟩ := os_l h
    refine go_eq (pc' := 61) (st' := []) (M' := M24) (lv' := [(0, .ref v0), (1, .int v1), (2, .int v2), (3, .int v3), (4, .int v4)]) ?_ rfl rfl rfl e25
    refine go_aload_n hC dX5_send_61 rfl 0 rfl ?_
    obtain ⟨h26, h⟩ := os_1 h
    obtain ⟨b27, h28, h⟩ := os_b h
    refine go_getR 22 hC h26 rfl rfl h28 (C := RX5) (T := TX5) (N := 28) rfl inlX5 (by decide) m_96 (Or.inl rfl) dX5_send_62 ?_
    refine go_iconst hC dX5_send_65 (v := (4 : Int32)) (by decide +kernel) ?_
    refine go_aload_n hC dX5_send_66 rfl 0 rfl ?_
    obtain ⟨h29, h⟩ := os_1 h
    refine go_getV 23 hC h29 rfl rfl (C := RX5) (T := TX5) (N := 28) rfl inlX5 (by decide) m_104 (Or.inl rfl) dX5_send_67 ?_
    refine go_imul hC dX5_send_70 ?_
    refine go_iconst hC dX5_send_71 (v := (3 : Int32)) (by decide +kernel) ?_
    refine go_iadd hC dX5_send_72 ?_
    refine go_iload hC dX5_send_73 4 rfl ?_
    obtain ⟨h30, h⟩ := os_1 h
    refine go_iast hC h30.1 h30.2 dX5_send_75 ?_
    obtain ⟨M31, e32, h⟩ := os_l h
    refine go_eq (pc' := 76) (st' := []) (M' := M31) (lv' := [(0, .ref v0), (1, .int v1), (2, .int v2), (3, .int v3), (4, .int v4)]) ?_ rfl rfl rfl e32
    refine go_aload_n hC dX5_send_76 rfl 0 rfl ?_
    refine go_dup hC dX5_send_77 rfl ?_
    obtain ⟨h33, h⟩ := os_1 h
    refine go_getV 23 hC h33 rfl rfl (C := RX5) (T := TX5) (N := 28) rfl inlX5 (by decide) m_104 (Or.inl rfl) dX5_send_78 ?_
    refine go_iconst hC dX5_send_81 (v := (1 : Int32)) (by decide +kernel) ?_
    refine go_iadd hC dX5_send_82 ?_
    obtain ⟨h34, h⟩ := os_1 h
    refine go_putV 23 hC h34 rfl rfl (C := RX5) (T := TX5) (N := 28) rfl inlX5 tyX5 tyX5_ok nmX5 (by decide) m_104 (Or.inl rfl) (Or.inl rfl) (tyX5_ok 23 (by decide)) rfl rfl dX5_send_83 ?_
    cases h
    exact go_vret hE dX5_send_86
  · have h := os_t h c4
    cases h
    exact go_vret hE dX5_send_20
theorem c_X5_send (l : Launch) {x9 : Cx} {k9 : Nat} {M M9 : Mm} {r9 : Unit} {v0 : Nat} {v1 : Int32} {v2 : Int32} {v3 : Int32} {v4 : Int32} (h : fX5_send x9 k9 v0 v1 v2 v3 v4 M = some (r9, M9)) : Fn l x9 yX5_send cX5_send 5 none 0 0 [.ref v0, .int v1, .int v2, .int v3, .int v4] M none M9 :=
  Fn.of (by decide +kernel) (Nat.le_of_ble_eq_true rfl) rfl (fun K _ hE => tX5_send_0 hE _ _ _ _ _ _ h)
/-! X5_applies -/
def fX5_applies (x9 : Cx) (k9 : Nat) (v0 : Nat) (v1 : Int32) (v2 : Int32) (M : Mm) : Option (Unit × Mm) :=
  if mK M v0 = 6 then ob1 (mP M v0 1) (fun b2 => if mK M v0 = 6 then ob1 (mP M v0 6) (fun b5 => if mK M b5 = 8 ∧ ¬ (v1 < 0 ∨ mN M b5 ≤ (v1).toNatClampNeg) then if mK M b2 = 8 ∧ ¬ ((((5 : Int32) * v2) + (mV M b5 (v1).toNatClampNeg)) < 0 ∨ mN M b2 ≤ ((((5 : Int32) * v2) + (mV M b5 (v1).toNatClampNeg))).toNatClampNeg) then if mK M b2 = 8 ∧ ¬ ((((5 : Int32) * v2) + (mV M b5 (v1).toNatClampNeg)) < 0 ∨ mN M b2 ≤ ((((5 : Int32) * v2) + (mV M b5 (v1).toNatClampNeg))).toNatClampNeg) then lt1 (sV M b2 ((((5 : Int32) * v2) + (mV M b5 (v1).toNatClampNeg))).toNatClampNeg ((mV M b2 ((((5 : Int32) * v2) + (mV M b5 (v1).toNatClampNeg))).toNatClampNeg) + (1 : Int32))) (fun M10 => if mK M10 v0 = 6 then if mK M10 v0 = 6 then if mK (sV M10 v0 4 ((mV M10 v0 4) + (1 : Int32))) v0 = 6 then ob1 (mP (sV M10 v0 4 ((mV M10 v0 4) + (1 : Int32))) v0 10) (fun b15 => if mK (sV M10 v0 4 ((mV M10 v0 4) + (1 : Int32))) v0 = 6 then if mK (sV M10 v0 4 ((mV M10 v0 4) + (1 : Int32))) b15 = 8 ∧ ¬ ((((5 : Int32) * v1) + v2) < 0 ∨ mN (sV M10 v0 4 ((mV M10 v0 4) + (1 : Int32))) b15 ≤ ((((5 : Int32) * v1) + v2)).toNatClampNeg) then lt1 (sV (sV M10 v0 4 ((mV M10 v0 4) + (1 : Int32))) b15 ((((5 : Int32) * v1) + v2)).toNatClampNeg (mV (sV M10 v0 4 ((mV M10 v0 4) + (1 : Int32))) v0 4)) (fun M19 => if mK M19 v0 = 6 then ob1 (mP M19 v0 11) (fun b22 => if mK M19 b22 = 9 ∧ ¬ ((((5 : Int32) * v1) + v2) < 0 ∨ mN M19 b22 ≤ ((((5 : Int32) * v1) + v2)).toNatClampNeg) then lt1 (sV M19 b22 ((((5 : Int32) * v1) + v2)).toNatClampNeg (vp_nar .boolean (0 : Int32))) (fun M25 => if mK M25 v0 = 6 then ob2 (fX5_unlock x9 k9 v0 v1 v2 M25) (fun r27 M28 => some ((), M28)) else none) else none) else none) else none else none) else none else none else none) else none else none else none) else none) else none
set_option maxRecDepth 100000 in
set_option maxHeartbeats 4000000 in
theorem tX5_applies_0 {x9 : Cx} {K : Ct} {k9 : Nat} {M0 M9 : Mm} {r9 : Unit} (hE : Ce x9 K RX5 cX5_applies 3 none 1 23 "applies" M0) (v0 : Nat) (v1 : Int32) (v2 : Int32) (M : Mm) (h : fX5_applies x9 k9 v0 v1 v2 M = some (r9, M9)) : Go x9 K 3 (Qf x9 K M0 none M9) 0 [(0, .ref v0), (1, .int v1), (2, .int v2)] [] M := by
  have hC := hE.1
  have hnm := hE.2.2.2.2.2.2.2.1
  unfold fX5_applies at h
  refine go_aload_n hC dX5_applies_0 rfl 0 rfl ?_
  obtain ⟨h1, h⟩ := os_1 h
  obtain ⟨b2, h3, h⟩ := os_b h
  refine go_getR 1 hC h1 rfl rfl h3 (C := RX5) (T := TX5) (N := 28) rfl inlX5 (by decide) m_76 (Or.inl rfl) dX5_applies_1 ?_
  refine go_iconst hC dX5_applies_4 (v := (5 : Int32)) (by decide +kernel) ?_
  refine go_iload_n hC dX5_applies_5 rfl 2 rfl ?_
  refine go_imul hC dX5_applies_6 ?_
  refine go_aload_n hC dX5_applies_7 rfl 0 rfl ?_
  obtain ⟨h4, h⟩ := os_1 h
  obtain ⟨b5, h6, h⟩ := os_b h
  refine go_getR 6 hC h4 rfl rfl h6 (C := RX5) (T := TX5) (N := 28) rfl inlX5 (by decide) m_80 (Or.inl rfl) dX5_applies_8 ?_
  refine go_iload_n hC dX5_applies_11 rfl 1 rfl ?_
  obtain ⟨h7, h⟩ := os_1 h
  refine go_iald hC h7.1 h7.2 dX5_applies_12 ?_
  refine go_iadd hC dX5_applies_13 ?_
  refine go_dup2 hC dX5_applies_14 rfl rfl ?_
  obtain ⟨h8, h⟩ := os_1 h
  refine go_iald hC h8.1 h8.2 dX5_applies_15 ?_
  refine go_iconst hC dX5_applies_16 (v := (1 : Int32)) (by decide +kernel) ?_
  refine go_iadd hC dX5_applies_17 ?_
  obtain ⟨h9, h⟩ := os_1 h
  refine go_iast hC h9.1 h9.2 dX5_applies_18 ?_
  obtain ⟨M10, e11, h⟩ := os_l h
  refine go_eq (pc' := 19) (st' := []) (M' := M10) (lv' := [(0, .ref v0), (1, .int v1), (2, .int v2)]) ?_ rfl rfl rfl e11
  refine go_aload_n hC dX5_applies_19 rfl 0 rfl ?_
  refine go_dup hC dX5_applies_20 rfl ?_
  obtain ⟨h12, h⟩ := os_1 h
  refine go_getV 4 hC h12 rfl rfl (C := RX5) (T := TX5) (N := 28) rfl inlX5 (by decide) m_102 (Or.inl rfl) dX5_applies_21 ?_
  refine go_iconst hC dX5_applies_24 (v := (1 : Int32)) (by decide +kernel) ?_
  refine go_iadd hC dX5_applies_25 ?_
  obtain ⟨h13, h⟩ := os_1 h
  refine go_putV 4 hC h13 rfl rfl (C := RX5) (T := TX5) (N := 28) rfl inlX5 tyX5 tyX5_ok nmX5 (by decide) m_102 (Or.inl rfl) (Or.inl rfl) (tyX5_ok 4 (by decide)) rfl rfl dX5_applies_26 ?_
  refine go_aload_n hC dX5_applies_29 rfl 0 rfl ?_
  obtain ⟨h14, h⟩ := os_1 h
  obtain ⟨b15, h16, h⟩ := os_b h
  refine go_getR 10 hC h14 rfl rfl h16 (C := RX5) (T := TX5) (N := 28) rfl inlX5 (by decide) m_84 (Or.inl rfl) dX5_applies_30 ?_
  refine go_iconst hC dX5_applies_33 (v := (5 : Int32)) (by decide +kernel) ?_
  refine go_iload_n hC dX5_applies_34 rfl 1 rfl ?_
  refine go_imul hC dX5_applies_35 ?_
  refine go_iload_n hC dX5_applies_36 rfl 2 rfl ?_
  refine go_iadd hC dX5_applies_37 ?_
  refine go_aload_n hC dX5_applies_38 rfl 0 rfl ?_
  obtain ⟨h17, h⟩ := os_1 h
  refine go_getV 4 hC h17 rfl rfl (C := RX5) (T := TX5) (N := 28) rfl inlX5 (by decide) m_102 (Or.inl rfl) dX5_applies_39 ?_
  obtain ⟨h18, h⟩ := os_1 h
  refine go_iast hC h18.1 h18.2 dX5_applies_42 ?_
  obtain ⟨M19, e20, h⟩ := os_l h
  refine go_eq (pc' := 43) (st' := []) (M' := M19) (lv' := [(0, .ref v0), (1, .int v1), (2, .int v2)]) ?_ rfl rfl rfl e20
  refine go_aload_n hC dX5_applies_43 rfl 0 rfl ?_
  obtain ⟨h21, h⟩ := os_1 h
  obtain ⟨b22, h23, h⟩ := os_b h
  refine go_getR 11 hC h21 rfl rfl h23 (C := RX5) (T := TX5) (N := 28) rfl inlX5 (by decide) m_85 (Or.inl rfl) dX5_applies_44 ?_
  refine go_iconst hC dX5_applies_47 (v := (5 : Int32)) (by decide +kernel) ?_
  refine go_iload_n hC dX5_applies_48 rfl 1 rfl ?_
  refine go_imul hC dX5_applies_49 ?_
  refine go_iload_n hC dX5_applies_50 rfl 2 rfl ?_
  refine go_iadd hC dX5_applies_51 ?_
  refine go_iconst hC dX5_applies_52 (v := (0 : Int32)) (by decide +kernel) ?_
  obtain ⟨h24, h⟩ := os_1 h
  refine go_zast hC h24.1 h24.2 dX5_applies_53 ?_
  obtain ⟨M25, e26, h⟩ := os_l h
  refine go_eq (pc' := 54) (st' := []) (M' := M25) (lv' := [(0, .ref v0), (1, .int v1), (2, .int v2)]) ?_ rfl rfl rfl e26
  refine go_aload_n hC dX5_applies_54 rfl 0 rfl ?_
  refine go_iload_n hC dX5_applies_55 rfl 1 rfl ?_
  refine go_iload_n hC dX5_applies_56 rfl 2 rfl ?_
  obtain ⟨h30, h⟩ := os_1 h
  obtain ⟨r27, M28, h29, h⟩ := os_c h
  refine go_callV (bytes := cX5_unlock) (maxL := 4) (ret := none) (n := 2) (As := [.int v1, .int v2]) (st := []) hE (c_X5_unlock K.2.1 h29) (by unfold okY; decide +kernel) rfl h30 rfl (C := RX5) (T := TX5) (N := 28) rfl m_499 m_496 m_497 m_498 m_5 rfl (by simp [Value.category]) (by decide) (by decide) dX5_applies_57 ?_
  refine go_eq (pc' := 60) (st' := []) (M' := M28) (lv' := [(0, .ref v0), (1, .int v1), (2, .int v2)]) ?_ rfl rfl rfl rfl
  cases h
  exact go_vret hE dX5_applies_60
theorem c_X5_applies (l : Launch) {x9 : Cx} {k9 : Nat} {M M9 : Mm} {r9 : Unit} {v0 : Nat} {v1 : Int32} {v2 : Int32} (h : fX5_applies x9 k9 v0 v1 v2 M = some (r9, M9)) : Fn l x9 yX5_applies cX5_applies 3 none 1 23 [.ref v0, .int v1, .int v2] M none M9 :=
  Fn.of (by decide +kernel) (Nat.le_of_ble_eq_true rfl) rfl (fun K _ hE => tX5_applies_0 hE _ _ _ _ h)
/-! X5_commits -/
def fX5_commits_61 (x9 : Cx) (k9 : Nat) (rec40 : Nat → Int32 → Int32 → Int32 → Mm → Option (Unit × Mm)) (v0 : Nat) (v1 : Int32) (v2 : Int32) (v3 : Int32) (M : Mm) : Option (Unit × Mm) :=
  rec40 v0 v1 v2 (v3 + 1) M
set_option maxRecDepth 100000 in
set_option maxHeartbeats 4000000 in
theorem tX5_commits_61 {x9 : Cx} {K : Ct} {k9 : Nat} {M0 M9 : Mm} {r9 : Unit} (hE : Ce x9 K RX5 cX5_commits 4 none 2 45 "commits" M0) {rec40 : Nat → Int32 → Int32 → Int32 → Mm → Option (Unit × Mm)} (hrec40 : ∀ (v0 : Nat) (v1 : Int32) (v2 : Int32) (v3 : Int32) (M : Mm), rec40 v0 v1 v2 v3 M = some (r9, M9) → Go x9 K 4 (Qf x9 K M0 none M9) 40 [(0, .ref v0), (1, .int v1), (2, .int v2), (3, .int v3)] [] M) (v0 : Nat) (v1 : Int32) (v2 : Int32) (v3 : Int32) (M : Mm) (h : fX5_commits_61 x9 k9 rec40 v0 v1 v2 v3 M = some (r9, M9)) : Go x9 K 4 (Qf x9 K M0 none M9) 61 [(0, .ref v0), (1, .int v1), (2, .int v2), (3, .int v3)] [] M := by
  have hC := hE.1
  have hnm := hE.2.2.2.2.2.2.2.1
  unfold fX5_commits_61 at h
  refine go_iinc (q := 3) (v := (v3 + 1)) (lv' := [(3, .int (v3 + 1)), (0, .ref v0), (1, .int v1), (2, .int v2)]) hC dX5_commits_61 rfl rfl (by decide) rfl ?_
  refine go_goto (t := 40) hC dX5_commits_64 (by decide) ?_
  refine go_sub (lv' := [(0, .ref v0), (1, .int v1), (2, .int v2), (3, .int (v3 + 1))]) [1, 2, 3, 0] rfl ?_
  exact hrec40 _ _ _ _ _ h
def fX5_commits_40 (x9 : Cx) (k9 : Nat) : Nat → Nat → Int32 → Int32 → Int32 → Mm → Option (Unit × Mm)
  | 0, _, _, _, _, _ => none
  | n9 + 1, v0, v1, v2, v3, M => if mK M v0 = 6 then if (mV M v0 0) ≤ v3 then some ((), M) else if v3 = v2 then fX5_commits_61 x9 k9 (fX5_commits_40 x9 k9 n9) v0 v1 v2 v3 M else if mK M v0 = 6 then ob2 (fX5_send x9 k9 v0 (5 : Int32) v2 v3 v1 M) (fun r4 M5 => fX5_commits_61 x9 k9 (fX5_commits_40 x9 k9 n9) v0 v1 v2 v3 M5) else none else none
set_option maxRecDepth 100000 in
set_option maxHeartbeats 4000000 in
theorem tX5_commits_40 {x9 : Cx} {K : Ct} {k9 : Nat} {M0 M9 : Mm} {r9 : Unit} (hE : Ce x9 K RX5 cX5_commits 4 none 2 45 "commits" M0) : ∀ (n9 : Nat) (v0 : Nat) (v1 : Int32) (v2 : Int32) (v3 : Int32) (M : Mm), fX5_commits_40 x9 k9 n9 v0 v1 v2 v3 M = some (r9, M9) → Go x9 K 4 (Qf x9 K M0 none M9) 40 [(0, .ref v0), (1, .int v1), (2, .int v2), (3, .int v3)] [] M := by
  have hC := hE.1
  have hnm := hE.2.2.2.2.2.2.2.1
  intro n9
  induction n9 with
  | zero => intro _ _ _ _ _ h; cases h
  | succ n9 ih =>
    intro v0 v1 v2 v3 M h
    rw [fX5_commits_40] at h
    refine go_iload_n hC dX5_commits_40 rfl 3 rfl ?_
    refine go_aload_n hC dX5_commits_41 rfl 0 rfl ?_
    obtain ⟨h1, h⟩ := os_1 h
    refine go_getV 0 hC h1 rfl rfl (C := RX5) (T := TX5) (N := 28) rfl inlX5 (by decide) m_75 (Or.inl rfl) dX5_commits_42 ?_
    refine go_icmp_ge (t := 67) hC dX5_commits_45 (by decide) (fun c2 => ?_) (fun c2 => ?_)
    · have h := os_t h c2
      cases h
      exact go_vret hE dX5_commits_67
    · have h := os_f h c2
      refine go_iload_n hC dX5_commits_48 rfl 3 rfl ?_
      refine go_iload_n hC dX5_commits_49 rfl 2 rfl ?_
      refine go_icmp_eq (t := 61) hC dX5_commits_50 (by decide) (fun c3 => ?_) (fun c3 => ?_)
      · have h := os_t h c3
        exact tX5_commits_61 hE ih _ _ _ _ _ h
      · have h := os_f h c3
        refine go_aload_n hC dX5_commits_53 rfl 0 rfl ?_
        refine go_iconst hC dX5_commits_54 (v := (5 : Int32)) (by decide +kernel) ?_
        refine go_iload_n hC dX5_commits_55 rfl 2 rfl ?_
        refine go_iload_n hC dX5_commits_56 rfl 3 rfl ?_
        refine go_iload_n hC dX5_commits_57 rfl 1 rfl ?_
        obtain ⟨h7, h⟩ := os_1 h
        obtain ⟨r4, M5, h6, h⟩ := os_c h
        refine go_callV (bytes := cX5_send) (maxL := 5) (ret := none) (n := 4) (As := [.int (5 : Int32), .int v2, .int v3, .int v1]) (st := []) hE (c_X5_send K.2.1 h6) (by unfold okY; decide +kernel) rfl h7 rfl (C := RX5) (T := TX5) (N := 28) rfl m_503 m_500 m_501 m_502 m_5 rfl (by simp [Value.category]) (by decide) (by decide) dX5_commits_58 ?_
        refine go_eq (pc' := 61) (st' := []) (M' := M5) (lv' := [(0, .ref v0), (1, .int v1), (2, .int v2), (3, .int v3)]) ?_ rfl rfl rfl rfl
        exact tX5_commits_61 hE ih _ _ _ _ _ h
def fX5_commits (x9 : Cx) (k9 : Nat) (v0 : Nat) (v1 : Int32) (M : Mm) : Option (Unit × Mm) :=
  if mK M v0 = 6 then ob1 (mP M v0 6) (fun b2 => if mK M b2 = 8 ∧ ¬ (v1 < 0 ∨ mN M b2 ≤ (v1).toNatClampNeg) then if mK M v0 = 6 then ob1 (mP M v0 7) (fun b6 => if mK M b6 = 8 ∧ ¬ (v1 < 0 ∨ mN M b6 ≤ (v1).toNatClampNeg) then if mK (sV M b6 (v1).toNatClampNeg (2 : Int32)) v0 = 6 then ob1 (mP (sV M b6 (v1).toNatClampNeg (2 : Int32)) v0 8) (fun b10 => if mK (sV M b6 (v1).toNatClampNeg (2 : Int32)) v0 = 6 then ob1 (mP (sV M b6 (v1).toNatClampNeg (2 : Int32)) v0 1) (fun b13 => if mK (sV M b6 (v1).toNatClampNeg (2 : Int32)) b13 = 8 ∧ ¬ ((((5 : Int32) * (mV M b2 (v1).toNatClampNeg)) + (mV M b2 (v1).toNatClampNeg)) < 0 ∨ mN (sV M b6 (v1).toNatClampNeg (2 : Int32)) b13 ≤ ((((5 : Int32) * (mV M b2 (v1).toNatClampNeg)) + (mV M b2 (v1).toNatClampNeg))).toNatClampNeg) then if mK (sV M b6 (v1).toNatClampNeg (2 : Int32)) b10 = 8 ∧ ¬ (v1 < 0 ∨ mN (sV M b6 (v1).toNatClampNeg (2 : Int32)) b10 ≤ (v1).toNatClampNeg) then lt1 (sV (sV M b6 (v1).toNatClampNeg (2 : Int32)) b10 (v1).toNatClampNeg ((mV (sV M b6 (v1).toNatClampNeg (2 : Int32)) b13 ((((5 : Int32) * (mV M b2 (v1).toNatClampNeg)) + (mV M b2 (v1).toNatClampNeg))).toNatClampNeg) + (1 : Int32))) (fun M17 => if mK M17 v0 = 6 then ob2 (fX5_applies x9 k9 v0 v1 (mV M b2 (v1).toNatClampNeg) M17) (fun r19 M20 => fX5_commits_40 x9 k9 k9 v0 v1 (mV M b2 (v1).toNatClampNeg) (0 : Int32) M20) else none) else none else none) else none) else none else none) else none else none) else none
set_option maxRecDepth 100000 in
set_option maxHeartbeats 4000000 in
theorem tX5_commits_0 {x9 : Cx} {K : Ct} {k9 : Nat} {M0 M9 : Mm} {r9 : Unit} (hE : Ce x9 K RX5 cX5_commits 4 none 2 45 "commits" M0) (v0 : Nat) (v1 : Int32) (M : Mm) (h : fX5_commits x9 k9 v0 v1 M = some (r9, M9)) : Go x9 K 4 (Qf x9 K M0 none M9) 0 [(0, .ref v0), (1, .int v1)] [] M := by
  have hC := hE.1
  have hnm := hE.2.2.2.2.2.2.2.1
  unfold fX5_commits at h
  refine go_aload_n hC dX5_commits_0 rfl 0 rfl ?_
  obtain ⟨h1, h⟩ := os_1 h
  obtain ⟨b2, h3, h⟩ := os_b h
  refine go_getR 6 hC h1 rfl rfl h3 (C := RX5) (T := TX5) (N := 28) rfl inlX5 (by decide) m_80 (Or.inl rfl) dX5_commits_1 ?_
  refine go_iload_n hC dX5_commits_4 rfl 1 rfl ?_
  obtain ⟨h4, h⟩ := os_1 h
  refine go_iald hC h4.1 h4.2 dX5_commits_5 ?_
  refine go_istore_n (lv' := [(2, .int (mV M b2 (v1).toNatClampNeg)), (0, .ref v0), (1, .int v1)]) hC dX5_commits_6 rfl (by decide) rfl ?_
  refine go_aload_n hC dX5_commits_7 rfl 1 rfl ?_
  obtain ⟨h5, h⟩ := os_1 h
  obtain ⟨b6, h7, h⟩ := os_b h
  refine go_getR 7 hC h5 rfl rfl h7 (C := RX5) (T := TX5) (N := 28) rfl inlX5 (by decide) m_81 (Or.inl rfl) dX5_commits_8 ?_
  refine go_iload_n hC dX5_commits_11 rfl 2 rfl ?_
  refine go_iconst hC dX5_commits_12 (v := (2 : Int32)) (by decide +kernel) ?_
  obtain ⟨h8, h⟩ := os_1 h
  refine go_iast hC h8.1 h8.2 dX5_commits_13 ?_
  refine go_aload_n hC dX5_commits_14 rfl 1 rfl ?_
  obtain ⟨h9, h⟩ := os_1 h
  obtain ⟨b10, h11, h⟩ := os_b h
  refine go_getR 8 hC h9 rfl rfl h11 (C := RX5) (T := TX5) (N := 28) rfl inlX5 (by decide) m_82 (Or.inl rfl) dX5_commits_15 ?_
  refine go_iload_n hC dX5_commits_18 rfl 2 rfl ?_
  refine go_aload_n hC dX5_commits_19 rfl 1 rfl ?_
  obtain ⟨h12, h⟩ := os_1 h
  obtain ⟨b13, h14, h⟩ := os_b h
  refine go_getR 1 hC h12 rfl rfl h14 (C := RX5) (T := TX5) (N := 28) rfl inlX5 (by decide) m_76 (Or.inl rfl) dX5_commits_20 ?_
  refine go_iconst hC dX5_commits_23 (v := (5 : Int32)) (by decide +kernel) ?_
  refine go_iload_n hC dX5_commits_24 rfl 0 rfl ?_
  refine go_imul hC dX5_commits_25 ?_
  refine go_iload_n hC dX5_commits_26 rfl 0 rfl ?_
  refine go_iadd hC dX5_commits_27 ?_
  obtain ⟨h15, h⟩ := os_1 h
  refine go_iald hC h15.1 h15.2 dX5_commits_28 ?_
  refine go_iconst hC dX5_commits_29 (v := (1 : Int32)) (by decide +kernel) ?_
  refine go_iadd hC dX5_commits_30 ?_
  obtain ⟨h16, h⟩ := os_1 h
  refine go_iast hC h16.1 h16.2 dX5_commits_31 ?_
  obtain ⟨M17, e18, h⟩ := os_l h
  refine go_eq (pc' := 32) (st' := []) (M' := M17) (lv' := [(2, .int (mV M b2 (v1).toNatClampNeg)), (0, .ref v0), (1, .int v1)]) ?_ rfl rfl rfl e18
  refine go_aload_n hC dX5_commits_32 rfl 1 rfl ?_
  refine go_iload_n hC dX5_commits_33 rfl 2 rfl ?_
  refine go_iload_n hC dX5_commits_34 rfl 0 rfl ?_
  obtain ⟨h22, h⟩ := os_1 h
  obtain ⟨r19, M20, h21, h⟩ := os_c h
  refine go_callV (bytes := cX5_applies) (maxL := 3) (ret := none) (n := 2) (As := [.int v1, .int (mV M b2 (v1).toNatClampNeg)]) (st := []) hE (c_X5_applies K.2.1 h21) (by unfold okY; decide +kernel) rfl h22 rfl (C := RX5) (T := TX5) (N := 28) rfl m_495 m_492 m_493 m_494 m_5 rfl (by simp [Value.category]) (by decide) (by decide) dX5_commits_35 ?_
  refine go_eq (pc' := 38) (st' := []) (M' := M20) (lv' := [(2, .int (mV M b2 (v1).toNatClampNeg)), (0, .ref v0), (1, .int v1)]) ?_ rfl rfl rfl rfl
  refine go_iconst hC dX5_commits_38 (v := (0 : Int32)) (by decide +kernel) ?_
  refine go_istore_n (lv' := [(3, .int (0 : Int32)), (2, .int (mV M b2 (v1).toNatClampNeg)), (0, .ref v0), (1, .int v1)]) hC dX5_commits_39 rfl (by decide) rfl ?_
  refine go_sub (lv' := [(0, .ref v0), (1, .int v1), (2, .int (mV M b2 (v1).toNatClampNeg)), (3, .int (0 : Int32))]) [2, 3, 1, 0] rfl ?_
  exact tX5_commits_40 hE k9 _ _ _ _ _ h
theorem c_X5_commits (l : Launch) {x9 : Cx} {k9 : Nat} {M M9 : Mm} {r9 : Unit} {v0 : Nat} {v1 : Int32} (h : fX5_commits x9 k9 v0 v1 M = some (r9, M9)) : Fn l x9 yX5_commits cX5_commits 4 none 2 45 [.ref v0, .int v1] M none M9 :=
  Fn.of (by decide +kernel) (Nat.le_of_ble_eq_true rfl) rfl (fun K _ hE => tX5_commits_0 hE _ _ _ h)
/-! X5_frees -/
def fX5_frees_47 (x9 : Cx) (k9 : Nat) (rec13 : Nat → Int32 → Int32 → Mm → Option (Unit × Mm)) (v0 : Nat) (v1 : Int32) (v2 : Int32) (M : Mm) : Option (Unit × Mm) :=
  rec13 v0 v1 (v2 + 1) M
set_option maxRecDepth 100000 in
set_option maxHeartbeats 4000000 in
theorem tX5_frees_47 {x9 : Cx} {K : Ct} {k9 : Nat} {M0 M9 : Mm} {r9 : Unit} (hE : Ce x9 K RX5 cX5_frees 3 none 1 24 "frees" M0) {rec13 : Nat → Int32 → Int32 → Mm → Option (Unit × Mm)} (hrec13 : ∀ (v0 : Nat) (v1 : Int32) (v2 : Int32) (M : Mm), rec13 v0 v1 v2 M = some (r9, M9) → Go x9 K 3 (Qf x9 K M0 none M9) 13 [(0, .ref v0), (1, .int v1), (2, .int v2)] [] M) (v0 : Nat) (v1 : Int32) (v2 : Int32) (M : Mm) (h : fX5_frees_47 x9 k9 rec13 v0 v1 v2 M = some (r9, M9)) : Go x9 K 3 (Qf x9 K M0 none M9) 47 [(0, .ref v0), (1, .int v1), (2, .int v2)] [] M := by
  have hC := hE.1
  have hnm := hE.2.2.2.2.2.2.2.1
  unfold fX5_frees_47 at h
  refine go_iinc (q := 2) (v := (v2 + 1)) (lv' := [(2, .int (v2 + 1)), (0, .ref v0), (1, .int v1)]) hC dX5_frees_47 rfl rfl (by decide) rfl ?_
  refine go_goto (t := 13) hC dX5_frees_50 (by decide) ?_
  refine go_sub (lv' := [(0, .ref v0), (1, .int v1), (2, .int (v2 + 1))]) [1, 2, 0] rfl ?_
  exact hrec13 _ _ _ _ h
def fX5_frees_13 (x9 : Cx) (k9 : Nat) : Nat → Nat → Int32 → Int32 → Mm → Option (Unit × Mm)
  | 0, _, _, _, _ => none
  | n9 + 1, v0, v1, v2, M => if mK M v0 = 6 then if (mV M v0 0) ≤ v2 then some ((), M) else if mK M v0 = 6 then ob1 (mP M v0 13) (fun b4 => if mK M b4 = 9 ∧ ¬ ((((5 : Int32) * v1) + v2) < 0 ∨ mN M b4 ≤ ((((5 : Int32) * v1) + v2)).toNatClampNeg) then if (mV M b4 ((((5 : Int32) * v1) + v2)).toNatClampNeg) = 0 then fX5_frees_47 x9 k9 (fX5_frees_13 x9 k9 n9) v0 v1 v2 M else if mK M v0 = 6 then ob1 (mP M v0 6) (fun b9 => if mK M b9 = 8 ∧ ¬ (v1 < 0 ∨ mN M b9 ≤ (v1).toNatClampNeg) then if mK M v0 = 6 then ob2 (fX5_send x9 k9 v0 (4 : Int32) (mV M b9 (v1).toNatClampNeg) v2 v1 M) (fun r12 M13 => fX5_frees_47 x9 k9 (fX5_frees_13 x9 k9 n9) v0 v1 v2 M13) else none else none) else none else none) else none else none
set_option maxRecDepth 100000 in
set_option maxHeartbeats 4000000 in
theorem tX5_frees_13 {x9 : Cx} {K : Ct} {k9 : Nat} {M0 M9 : Mm} {r9 : Unit} (hE : Ce x9 K RX5 cX5_frees 3 none 1 24 "frees" M0) : ∀ (n9 : Nat) (v0 : Nat) (v1 : Int32) (v2 : Int32) (M : Mm), fX5_frees_13 x9 k9 n9 v0 v1 v2 M = some (r9, M9) → Go x9 K 3 (Qf x9 K M0 none M9) 13 [(0, .ref v0), (1, .int v1), (2, .int v2)] [] M := by
  have hC := hE.1
  have hnm := hE.2.2.2.2.2.2.2.1
  intro n9
  induction n9 with
  | zero => intro _ _ _ _ h; cases h
  | succ n9 ih =>
    intro v0 v1 v2 M h
    rw [fX5_frees_13] at h
    refine go_iload_n hC dX5_frees_13 rfl 2 rfl ?_
    refine go_aload_n hC dX5_frees_14 rfl 0 rfl ?_
    obtain ⟨h1, h⟩ := os_1 h
    refine go_getV 0 hC h1 rfl rfl (C := RX5) (T := TX5) (N := 28) rfl inlX5 (by decide) m_75 (Or.inl rfl) dX5_frees_15 ?_
    refine go_icmp_ge (t := 53) hC dX5_frees_18 (by decide) (fun c2 => ?_) (fun c2 => ?_)
    · have h := os_t h c2
      cases h
      exact go_vret hE dX5_frees_53
    · have h := os_f h c2
      refine go_aload_n hC dX5_frees_21 rfl 0 rfl ?_
      obtain ⟨h3, h⟩ := os_1 h
      obtain ⟨b4, h5, h⟩ := os_b h
      refine go_getR 13 hC h3 rfl rfl h5 (C := RX5) (T := TX5) (N := 28) rfl inlX5 (by decide) m_87 (Or.inl rfl) dX5_frees_22 ?_
      refine go_iconst hC dX5_frees_25 (v := (5 : Int32)) (by decide +kernel) ?_
      refine go_iload_n hC dX5_frees_26 rfl 1 rfl ?_
      refine go_imul hC dX5_frees_27 ?_
      refine go_iload_n hC dX5_frees_28 rfl 2 rfl ?_
      refine go_iadd hC dX5_frees_29 ?_
      obtain ⟨h6, h⟩ := os_1 h
      refine go_zald hC h6.1 h6.2 dX5_frees_30 ?_
      refine go_if_eq (t := 47) hC dX5_frees_31 (by decide) (fun c7 => ?_) (fun c7 => ?_)
      · have h := os_t h c7
        exact tX5_frees_47 hE ih _ _ _ _ h
      · have h := os_f h c7
        refine go_aload_n hC dX5_frees_34 rfl 0 rfl ?_
        refine go_iconst hC dX5_frees_35 (v := (4 : Int32)) (by decide +kernel) ?_
        refine go_aload_n hC dX5_frees_36 rfl 0 rfl ?_
        obtain ⟨h8, h⟩ := os_1 h
        obtain ⟨b9, h10, h⟩ := os_b h
        refine go_getR 6 hC h8 rfl rfl h10 (C := RX5) (T := TX5) (N := 28) rfl inlX5 (by decide) m_80 (Or.inl rfl) dX5_frees_37 ?_
        refine go_iload_n hC dX5_frees_40 rfl 1 rfl ?_
        obtain ⟨h11, h⟩ := os_1 h
        refine go_iald hC h11.1 h11.2 dX5_frees_41 ?_
        refine go_iload_n hC dX5_frees_42 rfl 2 rfl ?_
        refine go_iload_n hC dX5_frees_43 rfl 1 rfl ?_
        obtain ⟨h15, h⟩ := os_1 h
        obtain ⟨r12, M13, h14, h⟩ := os_c h
        refine go_callV (bytes := cX5_send) (maxL := 5) (ret := none) (n := 4) (As := [.int (4 : Int32), .int (mV M b9 (v1).toNatClampNeg), .int v2, .int v1]) (st := []) hE (c_X5_send K.2.1 h14) (by unfold okY; decide +kernel) rfl h15 rfl (C := RX5) (T := TX5) (N := 28) rfl m_503 m_500 m_501 m_502 m_5 rfl (by simp [Value.category]) (by decide) (by decide) dX5_frees_44 ?_
        refine go_eq (pc' := 47) (st' := []) (M' := M13) (lv' := [(0, .ref v0), (1, .int v1), (2, .int v2)]) ?_ rfl rfl rfl rfl
        exact tX5_frees_47 hE ih _ _ _ _ h
def fX5_frees (x9 : Cx) (k9 : Nat) (v0 : Nat) (v1 : Int32) (M : Mm) : Option (Unit × Mm) :=
  if mK M v0 = 6 then ob1 (mP M v0 6) (fun b2 => if mK M b2 = 8 ∧ ¬ (v1 < 0 ∨ mN M b2 ≤ (v1).toNatClampNeg) then if mK M v0 = 6 then ob2 (fX5_unlock x9 k9 v0 v1 (mV M b2 (v1).toNatClampNeg) M) (fun r5 M6 => fX5_frees_13 x9 k9 k9 v0 v1 (0 : Int32) M6) else none else none) else none
set_option maxRecDepth 100000 in
set_option maxHeartbeats 4000000 in
theorem tX5_frees_0 {x9 : Cx} {K : Ct} {k9 : Nat} {M0 M9 : Mm} {r9 : Unit} (hE : Ce x9 K RX5 cX5_frees 3 none 1 24 "frees" M0) (v0 : Nat) (v1 : Int32) (M : Mm) (h : fX5_frees x9 k9 v0 v1 M = some (r9, M9)) : Go x9 K 3 (Qf x9 K M0 none M9) 0 [(0, .ref v0), (1, .int v1)] [] M := by
  have hC := hE.1
  have hnm := hE.2.2.2.2.2.2.2.1
  unfold fX5_frees at h
  refine go_aload_n hC dX5_frees_0 rfl 0 rfl ?_
  refine go_iload_n hC dX5_frees_1 rfl 1 rfl ?_
  refine go_aload_n hC dX5_frees_2 rfl 0 rfl ?_
  obtain ⟨h1, h⟩ := os_1 h
  obtain ⟨b2, h3, h⟩ := os_b h
  refine go_getR 6 hC h1 rfl rfl h3 (C := RX5) (T := TX5) (N := 28) rfl inlX5 (by decide) m_80 (Or.inl rfl) dX5_frees_3 ?_
  refine go_iload_n hC dX5_frees_6 rfl 1 rfl ?_
  obtain ⟨h4, h⟩ := os_1 h
  refine go_iald hC h4.1 h4.2 dX5_frees_7 ?_
  obtain ⟨h8, h⟩ := os_1 h
  obtain ⟨r5, M6, h7, h⟩ := os_c h
  refine go_callV (bytes := cX5_unlock) (maxL := 4) (ret := none) (n := 2) (As := [.int v1, .int (mV M b2 (v1).toNatClampNeg)]) (st := []) hE (c_X5_unlock K.2.1 h7) (by unfold okY; decide +kernel) rfl h8 rfl (C := RX5) (T := TX5) (N := 28) rfl m_499 m_496 m_497 m_498 m_5 rfl (by simp [Value.category]) (by decide) (by decide) dX5_frees_8 ?_
  refine go_eq (pc' := 11) (st' := []) (M' := M6) (lv' := [(0, .ref v0), (1, .int v1)]) ?_ rfl rfl rfl rfl
  refine go_iconst hC dX5_frees_11 (v := (0 : Int32)) (by decide +kernel) ?_
  refine go_istore_n (lv' := [(2, .int (0 : Int32)), (0, .ref v0), (1, .int v1)]) hC dX5_frees_12 rfl (by decide) rfl ?_
  refine go_sub (lv' := [(0, .ref v0), (1, .int v1), (2, .int (0 : Int32))]) [1, 2, 0] rfl ?_
  exact tX5_frees_13 hE k9 _ _ _ _ h
theorem c_X5_frees (l : Launch) {x9 : Cx} {k9 : Nat} {M M9 : Mm} {r9 : Unit} {v0 : Nat} {v1 : Int32} (h : fX5_frees x9 k9 v0 v1 M = some (r9, M9)) : Fn l x9 yX5_frees cX5_frees 3 none 1 24 [.ref v0, .int v1] M none M9 :=
  Fn.of (by decide +kernel) (Nat.le_of_ble_eq_true rfl) rfl (fun K _ hE => tX5_frees_0 hE _ _ _ h)
/-! X5_commit -/
def fX5_commit_43 (x9 : Cx) (k9 : Nat) (M : Mm) : Option (Int32 × Mm) :=
  some ((0 : Int32), M)
set_option maxRecDepth 100000 in
set_option maxHeartbeats 4000000 in
theorem tX5_commit_43 {x9 : Cx} {K : Ct} {k9 : Nat} {M0 M9 : Mm} {r9 : Int32} (hE : Ce x9 K RX5 cX5_commit 5 (some .int) 3 72 "commit" M0) (M : Mm) (h : fX5_commit_43 x9 k9 M = some (r9, M9)) : Go x9 K 5 (Qf x9 K M0 (some (.int r9)) M9) 43 [] [] M := by
  have hC := hE.1
  have hnm := hE.2.2.2.2.2.2.2.1
  unfold fX5_commit_43 at h
  refine go_iconst hC dX5_commit_43 (v := (0 : Int32)) (by decide +kernel) ?_
  cases h
  exact go_iret hE dX5_commit_44
def fX5_commit_234 (x9 : Cx) (k9 : Nat) (v0 : Nat) (v1 : Int32) (M : Mm) : Option (Int32 × Mm) :=
  if mK M v0 = 6 then ob1 (mP M v0 7) (fun b2 => if mK M b2 = 8 ∧ ¬ (v1 < 0 ∨ mN M b2 ≤ (v1).toNatClampNeg) then some ((mV M b2 (v1).toNatClampNeg), M) else none) else none
set_option maxRecDepth 100000 in
set_option maxHeartbeats 4000000 in
theorem tX5_commit_234 {x9 : Cx} {K : Ct} {k9 : Nat} {M0 M9 : Mm} {r9 : Int32} (hE : Ce x9 K RX5 cX5_commit 5 (some .int) 3 72 "commit" M0) (v0 : Nat) (v1 : Int32) (M : Mm) (h : fX5_commit_234 x9 k9 v0 v1 M = some (r9, M9)) : Go x9 K 5 (Qf x9 K M0 (some (.int r9)) M9) 234 [(0, .ref v0), (1, .int v1)] [] M := by
  have hC := hE.1
  have hnm := hE.2.2.2.2.2.2.2.1
  unfold fX5_commit_234 at h
  refine go_aload_n hC dX5_commit_234 rfl 0 rfl ?_
  obtain ⟨h1, h⟩ := os_1 h
  obtain ⟨b2, h3, h⟩ := os_b h
  refine go_getR 7 hC h1 rfl rfl h3 (C := RX5) (T := TX5) (N := 28) rfl inlX5 (by decide) m_81 (Or.inl rfl) dX5_commit_235 ?_
  refine go_iload_n hC dX5_commit_238 rfl 1 rfl ?_
  obtain ⟨h4, h⟩ := os_1 h
  refine go_iald hC h4.1 h4.2 dX5_commit_239 ?_
  cases h
  exact go_iret hE dX5_commit_240
def fX5_commit_228 (x9 : Cx) (k9 : Nat) (rec196 : Nat → Int32 → Int32 → Int32 → Mm → Option (Int32 × Mm)) (v0 : Nat) (v1 : Int32) (v2 : Int32) (v4 : Int32) (M : Mm) : Option (Int32 × Mm) :=
  rec196 v0 v1 v2 (v4 + 1) M
set_option maxRecDepth 100000 in
set_option maxHeartbeats 4000000 in
theorem tX5_commit_228 {x9 : Cx} {K : Ct} {k9 : Nat} {M0 M9 : Mm} {r9 : Int32} (hE : Ce x9 K RX5 cX5_commit 5 (some .int) 3 72 "commit" M0) {rec196 : Nat → Int32 → Int32 → Int32 → Mm → Option (Int32 × Mm)} (hrec196 : ∀ (v0 : Nat) (v1 : Int32) (v2 : Int32) (v4 : Int32) (M : Mm), rec196 v0 v1 v2 v4 M = some (r9, M9) → Go x9 K 5 (Qf x9 K M0 (some (.int r9)) M9) 196 [(0, .ref v0), (1, .int v1), (2, .int v2), (4, .int v4)] [] M) (v0 : Nat) (v1 : Int32) (v2 : Int32) (v4 : Int32) (M : Mm) (h : fX5_commit_228 x9 k9 rec196 v0 v1 v2 v4 M = some (r9, M9)) : Go x9 K 5 (Qf x9 K M0 (some (.int r9)) M9) 228 [(0, .ref v0), (1, .int v1), (2, .int v2), (4, .int v4)] [] M := by
  have hC := hE.1
  have hnm := hE.2.2.2.2.2.2.2.1
  unfold fX5_commit_228 at h
  refine go_iinc (q := 3) (v := (v4 + 1)) (lv' := [(4, .int (v4 + 1)), (0, .ref v0), (1, .int v1), (2, .int v2)]) hC dX5_commit_228 rfl rfl (by decide) rfl ?_
  refine go_goto (t := 196) hC dX5_commit_231 (by decide) ?_
  refine go_sub (lv' := [(0, .ref v0), (1, .int v1), (2, .int v2), (4, .int (v4 + 1))]) [1, 2, 3, 0] rfl ?_
  exact hrec196 _ _ _ _ _ h
def fX5_commit_196 (x9 : Cx) (k9 : Nat) : Nat → Nat → Int32 → Int32 → Int32 → Mm → Option (Int32 × Mm)
  | 0, _, _, _, _, _ => none
  | n9 + 1, v0, v1, v2, v4, M => if mK M v0 = 6 then if (mV M v0 0) ≤ v4 then fX5_commit_234 x9 k9 v0 v1 M else if mK M v0 = 6 then ob1 (mP M v0 13) (fun b4 => if mK M b4 = 9 ∧ ¬ ((((5 : Int32) * v1) + v4) < 0 ∨ mN M b4 ≤ ((((5 : Int32) * v1) + v4)).toNatClampNeg) then if (mV M b4 ((((5 : Int32) * v1) + v4)).toNatClampNeg) = 0 then fX5_commit_228 x9 k9 (fX5_commit_196 x9 k9 n9) v0 v1 v2 v4 M else if mK M v0 = 6 then ob2 (fX5_send x9 k9 v0 (1 : Int32) v2 v4 v1 M) (fun r8 M9 => fX5_commit_228 x9 k9 (fX5_commit_196 x9 k9 n9) v0 v1 v2 v4 M9) else none else none) else none else none
set_option maxRecDepth 100000 in
set_option maxHeartbeats 4000000 in
theorem tX5_commit_196 {x9 : Cx} {K : Ct} {k9 : Nat} {M0 M9 : Mm} {r9 : Int32} (hE : Ce x9 K RX5 cX5_commit 5 (some .int) 3 72 "commit" M0) : ∀ (n9 : Nat) (v0 : Nat) (v1 : Int32) (v2 : Int32) (v4 : Int32) (M : Mm), fX5_commit_196 x9 k9 n9 v0 v1 v2 v4 M = some (r9, M9) → Go x9 K 5 (Qf x9 K M0 (some (.int r9)) M9) 196 [(0, .ref v0), (1, .int v1), (2, .int v2), (4, .int v4)] [] M := by
  have hC := hE.1
  have hnm := hE.2.2.2.2.2.2.2.1
  intro n9
  induction n9 with
  | zero => intro _ _ _ _ _ h; cases h
  | succ n9 ih =>
    intro v0 v1 v2 v4 M h
    rw [fX5_commit_196] at h
    refine go_iload hC dX5_commit_196 3 rfl ?_
    refine go_aload_n hC dX5_commit_198 rfl 0 rfl ?_
    obtain ⟨h1, h⟩ := os_1 h
    refine go_getV 0 hC h1 rfl rfl (C := RX5) (T := TX5) (N := 28) rfl inlX5 (by decide) m_75 (Or.inl rfl) dX5_commit_199 ?_
    refine go_icmp_ge (t := 234) hC dX5_commit_202 (by decide) (fun c2 => ?_) (fun c2 => ?_)
    · have h := os_t h c2
      refine go_sub (lv' := [(0, .ref v0), (1, .int v1)]) [0, 1] rfl ?_
      exact tX5_commit_234 hE _ _ _ h
    · have h := os_f h c2
      refine go_aload_n hC dX5_commit_205 rfl 0 rfl ?_
      obtain ⟨h3, h⟩ := os_1 h
      obtain ⟨b4, h5, h⟩ := os_b h
      refine go_getR 13 hC h3 rfl rfl h5 (C := RX5) (T := TX5) (N := 28) rfl inlX5 (by decide) m_87 (Or.inl rfl) dX5_commit_206 ?_
      refine go_iconst hC dX5_commit_209 (v := (5 : Int32)) (by decide +kernel) ?_
      refine go_iload_n hC dX5_commit_210 rfl 1 rfl ?_
      refine go_imul hC dX5_commit_211 ?_
      refine go_iload hC dX5_commit_212 3 rfl ?_
      refine go_iadd hC dX5_commit_214 ?_
      obtain ⟨h6, h⟩ := os_1 h
      refine go_zald hC h6.1 h6.2 dX5_commit_215 ?_
      refine go_if_eq (t := 228) hC dX5_commit_216 (by decide) (fun c7 => ?_) (fun c7 => ?_)
      · have h := os_t h c7
        exact tX5_commit_228 hE ih _ _ _ _ _ h
      · have h := os_f h c7
        refine go_aload_n hC dX5_commit_219 rfl 0 rfl ?_
        refine go_iconst hC dX5_commit_220 (v := (1 : Int32)) (by decide +kernel) ?_
        refine go_iload_n hC dX5_commit_221 rfl 2 rfl ?_
        refine go_iload hC dX5_commit_222 3 rfl ?_
        refine go_iload_n hC dX5_commit_224 rfl 1 rfl ?_
        obtain ⟨h11, h⟩ := os_1 h
        obtain ⟨r8, M9, h10, h⟩ := os_c h
        refine go_callV (bytes := cX5_send) (maxL := 5) (ret := none) (n := 4) (As := [.int (1 : Int32), .int v2, .int v4, .int v1]) (st := []) hE (c_X5_send K.2.1 h10) (by unfold okY; decide +kernel) rfl h11 rfl (C := RX5) (T := TX5) (N := 28) rfl m_503 m_500 m_501 m_502 m_5 rfl (by simp [Value.category]) (by decide) (by decide) dX5_commit_225 ?_
        refine go_eq (pc' := 228) (st' := []) (M' := M9) (lv' := [(0, .ref v0), (1, .int v1), (2, .int v2), (4, .int v4)]) ?_ rfl rfl rfl rfl
        exact tX5_commit_228 hE ih _ _ _ _ _ h
def fX5_commit_134 (x9 : Cx) (k9 : Nat) : Nat → Nat → Int32 → Int32 → Mm → Option (Int32 × Mm)
  | 0, _, _, _, _ => none
  | n9 + 1, v0, v1, v4, M => if (5 : Int32) ≤ v4 then fX5_commit_234 x9 k9 v0 v1 M else if mK M v0 = 6 then ob1 (mP M v0 13) (fun b3 => if mK M b3 = 9 ∧ ¬ ((((5 : Int32) * v1) + v4) < 0 ∨ mN M b3 ≤ ((((5 : Int32) * v1) + v4)).toNatClampNeg) then lt1 (sV M b3 ((((5 : Int32) * v1) + v4)).toNatClampNeg (vp_nar .boolean (0 : Int32))) (fun M6 => fX5_commit_134 x9 k9 n9 v0 v1 (v4 + 1) M6) else none) else none
set_option maxRecDepth 100000 in
set_option maxHeartbeats 4000000 in
theorem tX5_commit_134 {x9 : Cx} {K : Ct} {k9 : Nat} {M0 M9 : Mm} {r9 : Int32} (hE : Ce x9 K RX5 cX5_commit 5 (some .int) 3 72 "commit" M0) : ∀ (n9 : Nat) (v0 : Nat) (v1 : Int32) (v4 : Int32) (M : Mm), fX5_commit_134 x9 k9 n9 v0 v1 v4 M = some (r9, M9) → Go x9 K 5 (Qf x9 K M0 (some (.int r9)) M9) 134 [(0, .ref v0), (1, .int v1), (4, .int v4)] [] M := by
  have hC := hE.1
  have hnm := hE.2.2.2.2.2.2.2.1
  intro n9
  induction n9 with
  | zero => intro _ _ _ _ h; cases h
  | succ n9 ih =>
    intro v0 v1 v4 M h
    rw [fX5_commit_134] at h
    refine go_iload hC dX5_commit_134 2 rfl ?_
    refine go_iconst hC dX5_commit_136 (v := (5 : Int32)) (by decide +kernel) ?_
    refine go_icmp_ge (t := 158) hC dX5_commit_137 (by decide) (fun c1 => ?_) (fun c1 => ?_)
    · have h := os_t h c1
      refine go_goto (t := 234) hC dX5_commit_158 (by decide) ?_
      refine go_sub (lv' := [(0, .ref v0), (1, .int v1)]) [0, 1] rfl ?_
      exact tX5_commit_234 hE _ _ _ h
    · have h := os_f h c1
      refine go_aload_n hC dX5_commit_140 rfl 0 rfl ?_
      obtain ⟨h2, h⟩ := os_1 h
      obtain ⟨b3, h4, h⟩ := os_b h
      refine go_getR 13 hC h2 rfl rfl h4 (C := RX5) (T := TX5) (N := 28) rfl inlX5 (by decide) m_87 (Or.inl rfl) dX5_commit_141 ?_
      refine go_iconst hC dX5_commit_144 (v := (5 : Int32)) (by decide +kernel) ?_
      refine go_iload_n hC dX5_commit_145 rfl 1 rfl ?_
      refine go_imul hC dX5_commit_146 ?_
      refine go_iload hC dX5_commit_147 2 rfl ?_
      refine go_iadd hC dX5_commit_149 ?_
      refine go_iconst hC dX5_commit_150 (v := (0 : Int32)) (by decide +kernel) ?_
      obtain ⟨h5, h⟩ := os_1 h
      refine go_zast hC h5.1 h5.2 dX5_commit_151 ?_
      obtain ⟨M6, e7, h⟩ := os_l h
      refine go_eq (pc' := 152) (st' := []) (M' := M6) (lv' := [(0, .ref v0), (1, .int v1), (4, .int v4)]) ?_ rfl rfl rfl e7
      refine go_iinc (q := 2) (v := (v4 + 1)) (lv' := [(4, .int (v4 + 1)), (0, .ref v0), (1, .int v1)]) hC dX5_commit_152 rfl rfl (by decide) rfl ?_
      refine go_goto (t := 134) hC dX5_commit_155 (by decide) ?_
      refine go_sub (lv' := [(0, .ref v0), (1, .int v1), (4, .int (v4 + 1))]) [1, 2, 0] rfl ?_
      exact ih _ _ _ _ h
def fX5_commit_109 (x9 : Cx) (k9 : Nat) (rec57 : Nat → Int32 → Int32 → Int32 → Int32 → Mm → Option (Int32 × Mm)) (v0 : Nat) (v1 : Int32) (v2 : Int32) (v3 : Int32) (v4 : Int32) (M : Mm) : Option (Int32 × Mm) :=
  rec57 v0 v1 v2 v3 (v4 + 1) M
set_option maxRecDepth 100000 in
set_option maxHeartbeats 4000000 in
theorem tX5_commit_109 {x9 : Cx} {K : Ct} {k9 : Nat} {M0 M9 : Mm} {r9 : Int32} (hE : Ce x9 K RX5 cX5_commit 5 (some .int) 3 72 "commit" M0) {rec57 : Nat → Int32 → Int32 → Int32 → Int32 → Mm → Option (Int32 × Mm)} (hrec57 : ∀ (v0 : Nat) (v1 : Int32) (v2 : Int32) (v3 : Int32) (v4 : Int32) (M : Mm), rec57 v0 v1 v2 v3 v4 M = some (r9, M9) → Go x9 K 5 (Qf x9 K M0 (some (.int r9)) M9) 57 [(0, .ref v0), (1, .int v1), (2, .int v2), (3, .int v3), (4, .int v4)] [] M) (v0 : Nat) (v1 : Int32) (v2 : Int32) (v3 : Int32) (v4 : Int32) (M : Mm) (h : fX5_commit_109 x9 k9 rec57 v0 v1 v2 v3 v4 M = some (r9, M9)) : Go x9 K 5 (Qf x9 K M0 (some (.int r9)) M9) 109 [(0, .ref v0), (1, .int v1), (2, .int v2), (3, .int v3), (4, .int v4)] [] M := by
  have hC := hE.1
  have hnm := hE.2.2.2.2.2.2.2.1
  unfold fX5_commit_109 at h
  refine go_iinc (q := 4) (v := (v4 + 1)) (lv' := [(4, .int (v4 + 1)), (0, .ref v0), (1, .int v1), (2, .int v2), (3, .int v3)]) hC dX5_commit_109 rfl rfl (by decide) rfl ?_
  refine go_goto (t := 57) hC dX5_commit_112 (by decide) ?_
  refine go_sub (lv' := [(0, .ref v0), (1, .int v1), (2, .int v2), (3, .int v3), (4, .int (v4 + 1))]) [1, 2, 3, 4, 0] rfl ?_
  exact hrec57 _ _ _ _ _ _ h
def fX5_commit_57 (x9 : Cx) (k9 : Nat) : Nat → Nat → Int32 → Int32 → Int32 → Int32 → Mm → Option (Int32 × Mm)
  | 0, _, _, _, _, _, _ => none
  | n9 + 1, v0, v1, v2, v3, v4, M => if (20 : Int32) ≤ v4 then if mK M v0 = 6 then ob2 (fX5_allFit x9 k9 v0 v1 v2 M) (fun r2 M3 => if r2 = 0 then if mK M3 v0 = 6 then ob1 (mP M3 v0 7) (fun b27 => if mK M3 b27 = 8 ∧ ¬ (v1 < 0 ∨ mN M3 b27 ≤ (v1).toNatClampNeg) then fX5_commit_134 x9 k9 k9 v0 v1 (0 : Int32) (sV M3 b27 (v1).toNatClampNeg (3 : Int32)) else none) else none else if v3 = 0 then if mK M3 v0 = 6 then ob2 (fX5_commits x9 k9 v0 v1 M3) (fun r22 M23 => fX5_commit_234 x9 k9 v0 v1 M23) else none else if mK M3 v0 = 6 then ob2 (fX5_lock x9 k9 v0 v1 v2 M3) (fun r8 M9 => if mK M9 v0 = 6 then ob1 (mP M9 v0 7) (fun b13 => if mK M9 b13 = 8 ∧ ¬ (v1 < 0 ∨ mN M9 b13 ≤ (v1).toNatClampNeg) then if mK (sV M9 b13 (v1).toNatClampNeg (1 : Int32)) v0 = 6 then ob1 (mP (sV M9 b13 (v1).toNatClampNeg (1 : Int32)) v0 20) (fun b17 => if mK (sV M9 b13 (v1).toNatClampNeg (1 : Int32)) b17 = 9 ∧ ¬ (v1 < 0 ∨ mN (sV M9 b13 (v1).toNatClampNeg (1 : Int32)) b17 ≤ (v1).toNatClampNeg) then lt1 (sV (sV M9 b13 (v1).toNatClampNeg (1 : Int32)) b17 (v1).toNatClampNeg (vp_nar .boolean (1 : Int32))) (fun M20 => fX5_commit_196 x9 k9 k9 v0 v1 v2 (0 : Int32) M20) else none) else none else none) else none) else none) else none else if mK M v0 = 6 then ob1 (mP M v0 15) (fun b31 => if mK M b31 = 9 ∧ ¬ ((((20 : Int32) * v1) + v4) < 0 ∨ mN M b31 ≤ ((((20 : Int32) * v1) + v4)).toNatClampNeg) then if (mV M b31 ((((20 : Int32) * v1) + v4)).toNatClampNeg) = 0 then fX5_commit_109 x9 k9 (fX5_commit_57 x9 k9 n9) v0 v1 v2 v3 v4 M else if mK M v0 = 6 then if ¬ (mV M v0 0) = 0 then if (v4 - v4 / (mV M v0 0) * (mV M v0 0)) = v2 then fX5_commit_109 x9 k9 (fX5_commit_57 x9 k9 n9) v0 v1 v2 v3 v4 M else if mK M v0 = 6 then ob1 (mP M v0 13) (fun b39 => if mK M v0 = 6 then if ¬ (mV M v0 0) = 0 then if mK M b39 = 9 ∧ ¬ ((((5 : Int32) * v1) + (v4 - v4 / (mV M v0 0) * (mV M v0 0))) < 0 ∨ mN M b39 ≤ ((((5 : Int32) * v1) + (v4 - v4 / (mV M v0 0) * (mV M v0 0)))).toNatClampNeg) then lt1 (sV M b39 ((((5 : Int32) * v1) + (v4 - v4 / (mV M v0 0) * (mV M v0 0)))).toNatClampNeg (vp_nar .boolean (1 : Int32))) (fun M44 => fX5_commit_109 x9 k9 (fX5_commit_57 x9 k9 n9) v0 v1 v2 (1 : Int32) v4 M44) else none else none else none) else none else none else none else none) else none
set_option maxRecDepth 100000 in
set_option maxHeartbeats 4000000 in
theorem tX5_commit_57 {x9 : Cx} {K : Ct} {k9 : Nat} {M0 M9 : Mm} {r9 : Int32} (hE : Ce x9 K RX5 cX5_commit 5 (some .int) 3 72 "commit" M0) : ∀ (n9 : Nat) (v0 : Nat) (v1 : Int32) (v2 : Int32) (v3 : Int32) (v4 : Int32) (M : Mm), fX5_commit_57 x9 k9 n9 v0 v1 v2 v3 v4 M = some (r9, M9) → Go x9 K 5 (Qf x9 K M0 (some (.int r9)) M9) 57 [(0, .ref v0), (1, .int v1), (2, .int v2), (3, .int v3), (4, .int v4)] [] M := by
  have hC := hE.1
  have hnm := hE.2.2.2.2.2.2.2.1
  intro n9
  induction n9 with
  | zero => intro _ _ _ _ _ _ h; cases h
  | succ n9 ih =>
    intro v0 v1 v2 v3 v4 M h
    rw [fX5_commit_57] at h
    refine go_iload hC dX5_commit_57 4 rfl ?_
    refine go_bipush hC dX5_commit_59 (v := (20 : Int32)) (by decide +kernel) ?_
    refine go_icmp_ge (t := 115) hC dX5_commit_61 (by decide) (fun c1 => ?_) (fun c1 => ?_)
    · have h := os_t h c1
      refine go_aload_n hC dX5_commit_115 rfl 0 rfl ?_
      refine go_iload_n hC dX5_commit_116 rfl 1 rfl ?_
      refine go_iload_n hC dX5_commit_117 rfl 2 rfl ?_
      obtain ⟨h5, h⟩ := os_1 h
      obtain ⟨r2, M3, h4, h⟩ := os_c h
      refine go_callV (bytes := cX5_allFit) (maxL := 5) (ret := (some .boolean)) (n := 2) (As := [.int v1, .int v2]) (st := []) hE (c_X5_allFit K.2.1 h4) (by unfold okY; decide +kernel) rfl h5 rfl (C := RX5) (T := TX5) (N := 28) rfl m_483 m_480 m_481 m_482 m_5 rfl (by simp [Value.category]) (by decide) (by decide) dX5_commit_118 ?_
      refine go_eq (pc' := 121) (st' := [.int r2]) (M' := M3) (lv' := [(0, .ref v0), (1, .int v1), (2, .int v2), (3, .int v3), (4, .int v4)]) ?_ rfl rfl rfl rfl
      refine go_if_ne (t := 161) hC dX5_commit_121 (by decide) (fun c6 => ?_) (fun c6 => ?_)
      · have h := os_f h c6
        refine go_iload_n hC dX5_commit_161 rfl 3 rfl ?_
        refine go_if_ne (t := 173) hC dX5_commit_162 (by decide) (fun c7 => ?_) (fun c7 => ?_)
        · have h := os_f h c7
          refine go_aload_n hC dX5_commit_173 rfl 0 rfl ?_
          refine go_iload_n hC dX5_commit_174 rfl 1 rfl ?_
          refine go_iload_n hC dX5_commit_175 rfl 2 rfl ?_
          obtain ⟨h11, h⟩ := os_1 h
          obtain ⟨r8, M9, h10, h⟩ := os_c h
          refine go_callV (bytes := cX5_lock) (maxL := 4) (ret := none) (n := 2) (As := [.int v1, .int v2]) (st := []) hE (c_X5_lock K.2.1 h10) (by unfold okY; decide +kernel) rfl h11 rfl (C := RX5) (T := TX5) (N := 28) rfl m_507 m_504 m_505 m_506 m_5 rfl (by simp [Value.category]) (by decide) (by decide) dX5_commit_176 ?_
          refine go_eq (pc' := 179) (st' := []) (M' := M9) (lv' := [(0, .ref v0), (1, .int v1), (2, .int v2), (3, .int v3), (4, .int v4)]) ?_ rfl rfl rfl rfl
          refine go_aload_n hC dX5_commit_179 rfl 0 rfl ?_
          obtain ⟨h12, h⟩ := os_1 h
          obtain ⟨b13, h14, h⟩ := os_b h
          refine go_getR 7 hC h12 rfl rfl h14 (C := RX5) (T := TX5) (N := 28) rfl inlX5 (by decide) m_81 (Or.inl rfl) dX5_commit_180 ?_
          refine go_iload_n hC dX5_commit_183 rfl 1 rfl ?_
          refine go_iconst hC dX5_commit_184 (v := (1 : Int32)) (by decide +kernel) ?_
          obtain ⟨h15, h⟩ := os_1 h
          refine go_iast hC h15.1 h15.2 dX5_commit_185 ?_
          refine go_aload_n hC dX5_commit_186 rfl 0 rfl ?_
          obtain ⟨h16, h⟩ := os_1 h
          obtain ⟨b17, h18, h⟩ := os_b h
          refine go_getR 20 hC h16 rfl rfl h18 (C := RX5) (T := TX5) (N := 28) rfl inlX5 (by decide) m_94 (Or.inl rfl) dX5_commit_187 ?_
          refine go_iload_n hC dX5_commit_190 rfl 1 rfl ?_
          refine go_iconst hC dX5_commit_191 (v := (1 : Int32)) (by decide +kernel) ?_
          obtain ⟨h19, h⟩ := os_1 h
          refine go_zast hC h19.1 h19.2 dX5_commit_192 ?_
          obtain ⟨M20, e21, h⟩ := os_l h
          refine go_eq (pc' := 193) (st' := []) (M' := M20) (lv' := [(0, .ref v0), (1, .int v1), (2, .int v2), (3, .int v3), (4, .int v4)]) ?_ rfl rfl rfl e21
          refine go_iconst hC dX5_commit_193 (v := (0 : Int32)) (by decide +kernel) ?_
          refine go_istore (lv' := [(4, .int (0 : Int32)), (0, .ref v0), (1, .int v1), (2, .int v2), (3, .int v3)]) hC dX5_commit_194 (by decide) rfl ?_
          refine go_sub (lv' := [(0, .ref v0), (1, .int v1), (2, .int v2), (4, .int (0 : Int32))]) [1, 2, 3, 0] rfl ?_
          exact tX5_commit_196 hE k9 _ _ _ _ _ h
        · have h := os_t h c7
          refine go_aload_n hC dX5_commit_165 rfl 0 rfl ?_
          refine go_iload_n hC dX5_commit_166 rfl 1 rfl ?_
          obtain ⟨h25, h⟩ := os_1 h
          obtain ⟨r22, M23, h24, h⟩ := os_c h
          refine go_callV (bytes := cX5_commits) (maxL := 4) (ret := none) (n := 1) (As := [.int v1]) (st := []) hE (c_X5_commits K.2.1 h24) (by unfold okY; decide +kernel) rfl h25 rfl (C := RX5) (T := TX5) (N := 28) rfl m_491 m_488 m_489 m_490 m_5 rfl (by simp [Value.category]) (by decide) (by decide) dX5_commit_167 ?_
          refine go_eq (pc' := 170) (st' := []) (M' := M23) (lv' := [(0, .ref v0), (1, .int v1), (2, .int v2), (3, .int v3), (4, .int v4)]) ?_ rfl rfl rfl rfl
          refine go_goto (t := 234) hC dX5_commit_170 (by decide) ?_
          refine go_sub (lv' := [(0, .ref v0), (1, .int v1)]) [0, 1] rfl ?_
          exact tX5_commit_234 hE _ _ _ h
      · have h := os_t h c6
        refine go_aload_n hC dX5_commit_124 rfl 0 rfl ?_
        obtain ⟨h26, h⟩ := os_1 h
        obtain ⟨b27, h28, h⟩ := os_b h
        refine go_getR 7 hC h26 rfl rfl h28 (C := RX5) (T := TX5) (N := 28) rfl inlX5 (by decide) m_81 (Or.inl rfl) dX5_commit_125 ?_
        refine go_iload_n hC dX5_commit_128 rfl 1 rfl ?_
        refine go_iconst hC dX5_commit_129 (v := (3 : Int32)) (by decide +kernel) ?_
        obtain ⟨h29, h⟩ := os_1 h
        refine go_iast hC h29.1 h29.2 dX5_commit_130 ?_
        refine go_iconst hC dX5_commit_131 (v := (0 : Int32)) (by decide +kernel) ?_
        refine go_istore (lv' := [(4, .int (0 : Int32)), (0, .ref v0), (1, .int v1), (2, .int v2), (3, .int v3)]) hC dX5_commit_132 (by decide) rfl ?_
        refine go_sub (lv' := [(0, .ref v0), (1, .int v1), (4, .int (0 : Int32))]) [1, 2, 0] rfl ?_
        exact tX5_commit_134 hE k9 _ _ _ _ h
    · have h := os_f h c1
      refine go_aload_n hC dX5_commit_64 rfl 0 rfl ?_
      obtain ⟨h30, h⟩ := os_1 h
      obtain ⟨b31, h32, h⟩ := os_b h
      refine go_getR 15 hC h30 rfl rfl h32 (C := RX5) (T := TX5) (N := 28) rfl inlX5 (by decide) m_89 (Or.inl rfl) dX5_commit_65 ?_
      refine go_bipush hC dX5_commit_68 (v := (20 : Int32)) (by decide +kernel) ?_
      refine go_iload_n hC dX5_commit_70 rfl 1 rfl ?_
      refine go_imul hC dX5_commit_71 ?_
      refine go_iload hC dX5_commit_72 4 rfl ?_
      refine go_iadd hC dX5_commit_74 ?_
      obtain ⟨h33, h⟩ := os_1 h
      refine go_zald hC h33.1 h33.2 dX5_commit_75 ?_
      refine go_if_eq (t := 109) hC dX5_commit_76 (by decide) (fun c34 => ?_) (fun c34 => ?_)
      · have h := os_t h c34
        exact tX5_commit_109 hE ih _ _ _ _ _ _ h
      · have h := os_f h c34
        refine go_iload hC dX5_commit_79 4 rfl ?_
        refine go_aload_n hC dX5_commit_81 rfl 0 rfl ?_
        obtain ⟨h35, h⟩ := os_1 h
        refine go_getV 0 hC h35 rfl rfl (C := RX5) (T := TX5) (N := 28) rfl inlX5 (by decide) m_75 (Or.inl rfl) dX5_commit_82 ?_
        obtain ⟨h36, h⟩ := os_1 h
        refine go_irem hC dX5_commit_85 h36 ?_
        refine go_iload_n hC dX5_commit_86 rfl 2 rfl ?_
        refine go_icmp_eq (t := 109) hC dX5_commit_87 (by decide) (fun c37 => ?_) (fun c37 => ?_)
        · have h := os_t h c37
          exact tX5_commit_109 hE ih _ _ _ _ _ _ h
        · have h := os_f h c37
          refine go_iconst hC dX5_commit_90 (v := (1 : Int32)) (by decide +kernel) ?_
          refine go_istore_n (lv' := [(3, .int (1 : Int32)), (0, .ref v0), (1, .int v1), (2, .int v2), (4, .int v4)]) hC dX5_commit_91 rfl (by decide) rfl ?_
          refine go_aload_n hC dX5_commit_92 rfl 1 rfl ?_
          obtain ⟨h38, h⟩ := os_1 h
          obtain ⟨b39, h40, h⟩ := os_b h
          refine go_getR 13 hC h38 rfl rfl h40 (C := RX5) (T := TX5) (N := 28) rfl inlX5 (by decide) m_87 (Or.inl rfl) dX5_commit_93 ?_
          refine go_iconst hC dX5_commit_96 (v := (5 : Int32)) (by decide +kernel) ?_
          refine go_iload_n hC dX5_commit_97 rfl 2 rfl ?_
          refine go_imul hC dX5_commit_98 ?_
          refine go_iload hC dX5_commit_99 4 rfl ?_
          refine go_aload_n hC dX5_commit_101 rfl 1 rfl ?_
          obtain ⟨h41, h⟩ := os_1 h
          refine go_getV 0 hC h41 rfl rfl (C := RX5) (T := TX5) (N := 28) rfl inlX5 (by decide) m_75 (Or.inl rfl) dX5_commit_102 ?_
          obtain ⟨h42, h⟩ := os_1 h
          refine go_irem hC dX5_commit_105 h42 ?_
          refine go_iadd hC dX5_commit_106 ?_
          refine go_iconst hC dX5_commit_107 (v := (1 : Int32)) (by decide +kernel) ?_
          obtain ⟨h43, h⟩ := os_1 h
          refine go_zast hC h43.1 h43.2 dX5_commit_108 ?_
          obtain ⟨M44, e45, h⟩ := os_l h
          refine go_eq (pc' := 109) (st' := []) (M' := M44) (lv' := [(3, .int (1 : Int32)), (0, .ref v0), (1, .int v1), (2, .int v2), (4, .int v4)]) ?_ rfl rfl rfl e45
          refine go_sub (lv' := [(0, .ref v0), (1, .int v1), (2, .int v2), (3, .int (1 : Int32)), (4, .int v4)]) [1, 2, 3, 0, 4] rfl ?_
          exact tX5_commit_109 hE ih _ _ _ _ _ _ h
def fX5_commit_36 (x9 : Cx) (k9 : Nat) (v0 : Nat) (v1 : Int32) (s0 : Nat) (s1 : Int32) (M : Mm) : Option (Int32 × Mm) :=
  if mK M s0 = 6 then ob2 (fX5_fails x9 k9 s0 s1 (2 : Int32) M) (fun r1 M2 => if r1 = 0 then if mK M2 v0 = 6 then ob1 (mP M2 v0 6) (fun b7 => if mK M2 b7 = 8 ∧ ¬ (v1 < 0 ∨ mN M2 b7 ≤ (v1).toNatClampNeg) then fX5_commit_57 x9 k9 k9 v0 v1 (mV M2 b7 (v1).toNatClampNeg) (0 : Int32) (0 : Int32) M2 else none) else none else fX5_commit_43 x9 k9 M2) else none
set_option maxRecDepth 100000 in
set_option maxHeartbeats 4000000 in
theorem tX5_commit_36 {x9 : Cx} {K : Ct} {k9 : Nat} {M0 M9 : Mm} {r9 : Int32} (hE : Ce x9 K RX5 cX5_commit 5 (some .int) 3 72 "commit" M0) (v0 : Nat) (v1 : Int32) (s0 : Nat) (s1 : Int32) (M : Mm) (h : fX5_commit_36 x9 k9 v0 v1 s0 s1 M = some (r9, M9)) : Go x9 K 5 (Qf x9 K M0 (some (.int r9)) M9) 36 [(0, .ref v0), (1, .int v1)] [.int s1, .ref s0] M := by
  have hC := hE.1
  have hnm := hE.2.2.2.2.2.2.2.1
  unfold fX5_commit_36 at h
  refine go_iconst hC dX5_commit_36 (v := (2 : Int32)) (by decide +kernel) ?_
  obtain ⟨h4, h⟩ := os_1 h
  obtain ⟨r1, M2, h3, h⟩ := os_c h
  refine go_callV (bytes := cX5_fails) (maxL := 3) (ret := (some .boolean)) (n := 2) (As := [.int s1, .int (2 : Int32)]) (st := []) hE (c_X5_fails K.2.1 h3) (by unfold okY; decide +kernel) rfl h4 rfl (C := RX5) (T := TX5) (N := 28) rfl m_127 m_124 m_125 m_126 m_5 rfl (by simp [Value.category]) (by decide) (by decide) dX5_commit_37 ?_
  refine go_eq (pc' := 40) (st' := [.int r1]) (M' := M2) (lv' := [(0, .ref v0), (1, .int v1)]) ?_ rfl rfl rfl rfl
  refine go_if_eq (t := 45) hC dX5_commit_40 (by decide) (fun c5 => ?_) (fun c5 => ?_)
  · have h := os_t h c5
    refine go_aload_n hC dX5_commit_45 rfl 0 rfl ?_
    obtain ⟨h6, h⟩ := os_1 h
    obtain ⟨b7, h8, h⟩ := os_b h
    refine go_getR 6 hC h6 rfl rfl h8 (C := RX5) (T := TX5) (N := 28) rfl inlX5 (by decide) m_80 (Or.inl rfl) dX5_commit_46 ?_
    refine go_iload_n hC dX5_commit_49 rfl 1 rfl ?_
    obtain ⟨h9, h⟩ := os_1 h
    refine go_iald hC h9.1 h9.2 dX5_commit_50 ?_
    refine go_istore_n (lv' := [(2, .int (mV M2 b7 (v1).toNatClampNeg)), (0, .ref v0), (1, .int v1)]) hC dX5_commit_51 rfl (by decide) rfl ?_
    refine go_iconst hC dX5_commit_52 (v := (0 : Int32)) (by decide +kernel) ?_
    refine go_istore_n (lv' := [(3, .int (0 : Int32)), (2, .int (mV M2 b7 (v1).toNatClampNeg)), (0, .ref v0), (1, .int v1)]) hC dX5_commit_53 rfl (by decide) rfl ?_
    refine go_iconst hC dX5_commit_54 (v := (0 : Int32)) (by decide +kernel) ?_
    refine go_istore (lv' := [(4, .int (0 : Int32)), (3, .int (0 : Int32)), (2, .int (mV M2 b7 (v1).toNatClampNeg)), (0, .ref v0), (1, .int v1)]) hC dX5_commit_55 (by decide) rfl ?_
    refine go_sub (lv' := [(0, .ref v0), (1, .int v1), (2, .int (mV M2 b7 (v1).toNatClampNeg)), (3, .int (0 : Int32)), (4, .int (0 : Int32))]) [3, 4, 2, 1, 0] rfl ?_
    exact tX5_commit_57 hE k9 _ _ _ _ _ _ h
  · have h := os_f h c5
    refine go_sub (lv' := []) [] rfl ?_
    exact tX5_commit_43 hE _ h
def fX5_commit_14 (x9 : Cx) (k9 : Nat) (v0 : Nat) (v1 : Int32) (s0 : Nat) (s1 : Int32) (M : Mm) : Option (Int32 × Mm) :=
  if mK M s0 = 6 then ob2 (fX5_fails x9 k9 s0 s1 (1 : Int32) M) (fun r1 M2 => if r1 = 0 then if mK M2 v0 = 6 then ob1 (mP M2 v0 7) (fun b7 => if mK M2 b7 = 8 ∧ ¬ (v1 < 0 ∨ mN M2 b7 ≤ (v1).toNatClampNeg) then if (mV M2 b7 (v1).toNatClampNeg) = 0 then fX5_commit_36 x9 k9 v0 v1 v0 (0 : Int32) M2 else fX5_commit_36 x9 k9 v0 v1 v0 (1 : Int32) M2 else none) else none else fX5_commit_43 x9 k9 M2) else none
set_option maxRecDepth 100000 in
set_option maxHeartbeats 4000000 in
theorem tX5_commit_14 {x9 : Cx} {K : Ct} {k9 : Nat} {M0 M9 : Mm} {r9 : Int32} (hE : Ce x9 K RX5 cX5_commit 5 (some .int) 3 72 "commit" M0) (v0 : Nat) (v1 : Int32) (s0 : Nat) (s1 : Int32) (M : Mm) (h : fX5_commit_14 x9 k9 v0 v1 s0 s1 M = some (r9, M9)) : Go x9 K 5 (Qf x9 K M0 (some (.int r9)) M9) 14 [(0, .ref v0), (1, .int v1)] [.int s1, .ref s0] M := by
  have hC := hE.1
  have hnm := hE.2.2.2.2.2.2.2.1
  unfold fX5_commit_14 at h
  refine go_iconst hC dX5_commit_14 (v := (1 : Int32)) (by decide +kernel) ?_
  obtain ⟨h4, h⟩ := os_1 h
  obtain ⟨r1, M2, h3, h⟩ := os_c h
  refine go_callV (bytes := cX5_fails) (maxL := 3) (ret := (some .boolean)) (n := 2) (As := [.int s1, .int (1 : Int32)]) (st := []) hE (c_X5_fails K.2.1 h3) (by unfold okY; decide +kernel) rfl h4 rfl (C := RX5) (T := TX5) (N := 28) rfl m_127 m_124 m_125 m_126 m_5 rfl (by simp [Value.category]) (by decide) (by decide) dX5_commit_15 ?_
  refine go_eq (pc' := 18) (st' := [.int r1]) (M' := M2) (lv' := [(0, .ref v0), (1, .int v1)]) ?_ rfl rfl rfl rfl
  refine go_if_ne (t := 43) hC dX5_commit_18 (by decide) (fun c5 => ?_) (fun c5 => ?_)
  · have h := os_f h c5
    refine go_sub (lv' := []) [] rfl ?_
    exact tX5_commit_43 hE _ h
  · have h := os_t h c5
    refine go_aload_n hC dX5_commit_21 rfl 0 rfl ?_
    refine go_aload_n hC dX5_commit_22 rfl 0 rfl ?_
    obtain ⟨h6, h⟩ := os_1 h
    obtain ⟨b7, h8, h⟩ := os_b h
    refine go_getR 7 hC h6 rfl rfl h8 (C := RX5) (T := TX5) (N := 28) rfl inlX5 (by decide) m_81 (Or.inl rfl) dX5_commit_23 ?_
    refine go_iload_n hC dX5_commit_26 rfl 1 rfl ?_
    obtain ⟨h9, h⟩ := os_1 h
    refine go_iald hC h9.1 h9.2 dX5_commit_27 ?_
    refine go_if_eq (t := 35) hC dX5_commit_28 (by decide) (fun c10 => ?_) (fun c10 => ?_)
    · have h := os_t h c10
      refine go_iconst hC dX5_commit_35 (v := (0 : Int32)) (by decide +kernel) ?_
      exact tX5_commit_36 hE _ _ _ _ _ h
    · have h := os_f h c10
      refine go_iconst hC dX5_commit_31 (v := (1 : Int32)) (by decide +kernel) ?_
      refine go_goto (t := 36) hC dX5_commit_32 (by decide) ?_
      exact tX5_commit_36 hE _ _ _ _ _ h
def fX5_commit (x9 : Cx) (k9 : Nat) (v0 : Nat) (v1 : Int32) (M : Mm) : Option (Int32 × Mm) :=
  if mK M v0 = 6 then ob2 (fX5_isOne x9 k9 v0 v1 M) (fun r1 M2 => if r1 = 0 then fX5_commit_14 x9 k9 v0 v1 v0 (1 : Int32) M2 else fX5_commit_14 x9 k9 v0 v1 v0 (0 : Int32) M2) else none
set_option maxRecDepth 100000 in
set_option maxHeartbeats 4000000 in
theorem tX5_commit_0 {x9 : Cx} {K : Ct} {k9 : Nat} {M0 M9 : Mm} {r9 : Int32} (hE : Ce x9 K RX5 cX5_commit 5 (some .int) 3 72 "commit" M0) (v0 : Nat) (v1 : Int32) (M : Mm) (h : fX5_commit x9 k9 v0 v1 M = some (r9, M9)) : Go x9 K 5 (Qf x9 K M0 (some (.int r9)) M9) 0 [(0, .ref v0), (1, .int v1)] [] M := by
  have hC := hE.1
  have hnm := hE.2.2.2.2.2.2.2.1
  unfold fX5_commit at h
  refine go_aload_n hC dX5_commit_0 rfl 0 rfl ?_
  refine go_aload_n hC dX5_commit_1 rfl 0 rfl ?_
  refine go_iload_n hC dX5_commit_2 rfl 1 rfl ?_
  obtain ⟨h4, h⟩ := os_1 h
  obtain ⟨r1, M2, h3, h⟩ := os_c h
  refine go_callV (bytes := cX5_isOne) (maxL := 2) (ret := (some .boolean)) (n := 1) (As := [.int v1]) (st := [.ref v0]) hE (c_X5_isOne K.2.1 h3) (by unfold okY; decide +kernel) rfl h4 rfl (C := RX5) (T := TX5) (N := 28) rfl m_301 m_298 m_299 m_300 m_5 rfl (by simp [Value.category]) (by decide) (by decide) dX5_commit_3 ?_
  refine go_eq (pc' := 6) (st' := [.int r1, .ref v0]) (M' := M2) (lv' := [(0, .ref v0), (1, .int v1)]) ?_ rfl rfl rfl rfl
  refine go_if_ne (t := 13) hC dX5_commit_6 (by decide) (fun c5 => ?_) (fun c5 => ?_)
  · have h := os_f h c5
    refine go_iconst hC dX5_commit_13 (v := (0 : Int32)) (by decide +kernel) ?_
    exact tX5_commit_14 hE _ _ _ _ _ h
  · have h := os_t h c5
    refine go_iconst hC dX5_commit_9 (v := (1 : Int32)) (by decide +kernel) ?_
    refine go_goto (t := 14) hC dX5_commit_10 (by decide) ?_
    exact tX5_commit_14 hE _ _ _ _ _ h
theorem c_X5_commit (l : Launch) {x9 : Cx} {k9 : Nat} {M M9 : Mm} {r9 : Int32} {v0 : Nat} {v1 : Int32} (h : fX5_commit x9 k9 v0 v1 M = some (r9, M9)) : Fn l x9 yX5_commit cX5_commit 5 (some .int) 3 72 [.ref v0, .int v1] M (some (.int r9)) M9 :=
  Fn.of (by decide +kernel) (Nat.le_of_ble_eq_true rfl) rfl (fun K _ hE => tX5_commit_0 hE _ _ _ h)
