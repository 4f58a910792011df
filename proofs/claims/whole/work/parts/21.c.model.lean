/-! X5_abort -/
def fX5_abort_43 (x9 : Cx) (k9 : Nat) (M : Mm) : Option (Unit × Mm) :=
  some ((), M)
set_option maxRecDepth 100000 in
set_option maxHeartbeats 4000000 in
theorem tX5_abort_43 {x9 : Cx} {K : Ct} {k9 : Nat} {M0 M9 : Mm} {r9 : Unit} (hE : Ce x9 K RX5 cX5_abort 2 none 1 22 "abort" M0) (M : Mm) (h : fX5_abort_43 x9 k9 M = some (r9, M9)) : Go x9 K 2 (Qf x9 K M0 none M9) 43 [] [] M := by
  have hC := hE.1
  have hnm := hE.2.2.2.2.2.2.2.1
  unfold fX5_abort_43 at h
  cases h
  exact go_vret hE dX5_abort_43
def fX5_abort_36 (x9 : Cx) (k9 : Nat) (v0 : Nat) (v1 : Int32) (s0 : Nat) (s1 : Int32) (M : Mm) : Option (Unit × Mm) :=
  if mK M s0 = 6 then ob2 (fX5_fails x9 k9 s0 s1 (2 : Int32) M) (fun r1 M2 => if r1 = 0 then if mK M2 v0 = 6 then ob1 (mP M2 v0 7) (fun b7 => if mK M2 b7 = 8 ∧ ¬ (v1 < 0 ∨ mN M2 b7 ≤ (v1).toNatClampNeg) then some ((), (sV M2 b7 (v1).toNatClampNeg (3 : Int32))) else none) else none else fX5_abort_43 x9 k9 M2) else none
set_option maxRecDepth 100000 in
set_option maxHeartbeats 4000000 in
theorem tX5_abort_36 {x9 : Cx} {K : Ct} {k9 : Nat} {M0 M9 : Mm} {r9 : Unit} (hE : Ce x9 K RX5 cX5_abort 2 none 1 22 "abort" M0) (v0 : Nat) (v1 : Int32) (s0 : Nat) (s1 : Int32) (M : Mm) (h : fX5_abort_36 x9 k9 v0 v1 s0 s1 M = some (r9, M9)) : Go x9 K 2 (Qf x9 K M0 none M9) 36 [(0, .ref v0), (1, .int v1)] [.int s1, .ref s0] M := by
  have hC := hE.1
  have hnm := hE.2.2.2.2.2.2.2.1
  unfold fX5_abort_36 at h
  refine go_iconst hC dX5_abort_36 (v := (2 : Int32)) (by decide +kernel) ?_
  obtain ⟨h4, h⟩ := os_1 h
  obtain ⟨r1, M2, h3, h⟩ := os_c h
  refine go_callV (bytes := cX5_fails) (maxL := 3) (ret := (some .boolean)) (n := 2) (As := [.int s1, .int (2 : Int32)]) (st := []) hE (c_X5_fails K.2.1 h3) (by unfold okY; decide +kernel) rfl h4 rfl (C := RX5) (T := TX5) (N := 28) rfl m_127 m_124 m_125 m_126 m_5 rfl (by simp [Value.category]) (by decide) (by decide) dX5_abort_37 ?_
  refine go_eq (pc' := 40) (st' := [.int r1]) (M' := M2) (lv' := [(0, .ref v0), (1, .int v1)]) ?_ rfl rfl rfl rfl
  refine go_if_eq (t := 44) hC dX5_abort_40 (by decide) (fun c5 => ?_) (fun c5 => ?_)
  · have h := os_t h c5
    refine go_aload_n hC dX5_abort_44 rfl 0 rfl ?_
    obtain ⟨h6, h⟩ := os_1 h
    obtain ⟨b7, h8, h⟩ := os_b h
    refine go_getR 7 hC h6 rfl rfl h8 (C := RX5) (T := TX5) (N := 28) rfl inlX5 (by decide) m_81 (Or.inl rfl) dX5_abort_45 ?_
    refine go_iload_n hC dX5_abort_48 rfl 1 rfl ?_
    refine go_iconst hC dX5_abort_49 (v := (3 : Int32)) (by decide +kernel) ?_
    obtain ⟨h9, h⟩ := os_1 h
    refine go_iast hC h9.1 h9.2 dX5_abort_50 ?_
    cases h
    exact go_vret hE dX5_abort_51
  · have h := os_f h c5
    refine go_sub (lv' := []) [] rfl ?_
    exact tX5_abort_43 hE _ h
def fX5_abort_14 (x9 : Cx) (k9 : Nat) (v0 : Nat) (v1 : Int32) (s0 : Nat) (s1 : Int32) (M : Mm) : Option (Unit × Mm) :=
  if mK M s0 = 6 then ob2 (fX5_fails x9 k9 s0 s1 (1 : Int32) M) (fun r1 M2 => if r1 = 0 then if mK M2 v0 = 6 then ob1 (mP M2 v0 7) (fun b7 => if mK M2 b7 = 8 ∧ ¬ (v1 < 0 ∨ mN M2 b7 ≤ (v1).toNatClampNeg) then if (mV M2 b7 (v1).toNatClampNeg) = 0 then fX5_abort_36 x9 k9 v0 v1 v0 (0 : Int32) M2 else fX5_abort_36 x9 k9 v0 v1 v0 (1 : Int32) M2 else none) else none else fX5_abort_43 x9 k9 M2) else none
set_option maxRecDepth 100000 in
set_option maxHeartbeats 4000000 in
theorem tX5_abort_14 {x9 : Cx} {K : Ct} {k9 : Nat} {M0 M9 : Mm} {r9 : Unit} (hE : Ce x9 K RX5 cX5_abort 2 none 1 22 "abort" M0) (v0 : Nat) (v1 : Int32) (s0 : Nat) (s1 : Int32) (M : Mm) (h : fX5_abort_14 x9 k9 v0 v1 s0 s1 M = some (r9, M9)) : Go x9 K 2 (Qf x9 K M0 none M9) 14 [(0, .ref v0), (1, .int v1)] [.int s1, .ref s0] M := by
  have hC := hE.1
  have hnm := hE.2.2.2.2.2.2.2.1
  unfold fX5_abort_14 at h
  refine go_iconst hC dX5_abort_14 (v := (1 : Int32)) (by decide +kernel) ?_
  obtain ⟨h4, h⟩ := os_1 h
  obtain ⟨r1, M2, h3, h⟩ := os_c h
  refine go_callV (bytes := cX5_fails) (maxL := 3) (ret := (some .boolean)) (n := 2) (As := [.int s1, .int (1 : Int32)]) (st := []) hE (c_X5_fails K.2.1 h3) (by unfold okY; decide +kernel) rfl h4 rfl (C := RX5) (T := TX5) (N := 28) rfl m_127 m_124 m_125 m_126 m_5 rfl (by simp [Value.category]) (by decide) (by decide) dX5_abort_15 ?_
  refine go_eq (pc' := 18) (st' := [.int r1]) (M' := M2) (lv' := [(0, .ref v0), (1, .int v1)]) ?_ rfl rfl rfl rfl
  refine go_if_ne (t := 43) hC dX5_abort_18 (by decide) (fun c5 => ?_) (fun c5 => ?_)
  · have h := os_f h c5
    refine go_sub (lv' := []) [] rfl ?_
    exact tX5_abort_43 hE _ h
  · have h := os_t h c5
    refine go_aload_n hC dX5_abort_21 rfl 0 rfl ?_
    refine go_aload_n hC dX5_abort_22 rfl 0 rfl ?_
    obtain ⟨h6, h⟩ := os_1 h
    obtain ⟨b7, h8, h⟩ := os_b h
    refine go_getR 7 hC h6 rfl rfl h8 (C := RX5) (T := TX5) (N := 28) rfl inlX5 (by decide) m_81 (Or.inl rfl) dX5_abort_23 ?_
    refine go_iload_n hC dX5_abort_26 rfl 1 rfl ?_
    obtain ⟨h9, h⟩ := os_1 h
    refine go_iald hC h9.1 h9.2 dX5_abort_27 ?_
    refine go_if_eq (t := 35) hC dX5_abort_28 (by decide) (fun c10 => ?_) (fun c10 => ?_)
    · have h := os_t h c10
      refine go_iconst hC dX5_abort_35 (v := (0 : Int32)) (by decide +kernel) ?_
      exact tX5_abort_36 hE _ _ _ _ _ h
    · have h := os_f h c10
      refine go_iconst hC dX5_abort_31 (v := (1 : Int32)) (by decide +kernel) ?_
      refine go_goto (t := 36) hC dX5_abort_32 (by decide) ?_
      exact tX5_abort_36 hE _ _ _ _ _ h
def fX5_abort (x9 : Cx) (k9 : Nat) (v0 : Nat) (v1 : Int32) (M : Mm) : Option (Unit × Mm) :=
  if mK M v0 = 6 then ob2 (fX5_isOne x9 k9 v0 v1 M) (fun r1 M2 => if r1 = 0 then fX5_abort_14 x9 k9 v0 v1 v0 (1 : Int32) M2 else fX5_abort_14 x9 k9 v0 v1 v0 (0 : Int32) M2) else none
set_option maxRecDepth 100000 in
set_option maxHeartbeats 4000000 in
theorem tX5_abort_0 {x9 : Cx} {K : Ct} {k9 : Nat} {M0 M9 : Mm} {r9 : Unit} (hE : Ce x9 K RX5 cX5_abort 2 none 1 22 "abort" M0) (v0 : Nat) (v1 : Int32) (M : Mm) (h : fX5_abort x9 k9 v0 v1 M = some (r9, M9)) : Go x9 K 2 (Qf x9 K M0 none M9) 0 [(0, .ref v0), (1, .int v1)] [] M := by
  have hC := hE.1
  have hnm := hE.2.2.2.2.2.2.2.1
  unfold fX5_abort at h
  refine go_aload_n hC dX5_abort_0 rfl 0 rfl ?_
  refine go_aload_n hC dX5_abort_1 rfl 0 rfl ?_
  refine go_iload_n hC dX5_abort_2 rfl 1 rfl ?_
  obtain ⟨h4, h⟩ := os_1 h
  obtain ⟨r1, M2, h3, h⟩ := os_c h
  refine go_callV (bytes := cX5_isOne) (maxL := 2) (ret := (some .boolean)) (n := 1) (As := [.int v1]) (st := [.ref v0]) hE (c_X5_isOne K.2.1 h3) (by unfold okY; decide +kernel) rfl h4 rfl (C := RX5) (T := TX5) (N := 28) rfl m_301 m_298 m_299 m_300 m_5 rfl (by simp [Value.category]) (by decide) (by decide) dX5_abort_3 ?_
  refine go_eq (pc' := 6) (st' := [.int r1, .ref v0]) (M' := M2) (lv' := [(0, .ref v0), (1, .int v1)]) ?_ rfl rfl rfl rfl
  refine go_if_ne (t := 13) hC dX5_abort_6 (by decide) (fun c5 => ?_) (fun c5 => ?_)
  · have h := os_f h c5
    refine go_iconst hC dX5_abort_13 (v := (0 : Int32)) (by decide +kernel) ?_
    exact tX5_abort_14 hE _ _ _ _ _ h
  · have h := os_t h c5
    refine go_iconst hC dX5_abort_9 (v := (1 : Int32)) (by decide +kernel) ?_
    refine go_goto (t := 14) hC dX5_abort_10 (by decide) ?_
    exact tX5_abort_14 hE _ _ _ _ _ h
theorem c_X5_abort (l : Launch) {x9 : Cx} {k9 : Nat} {M M9 : Mm} {r9 : Unit} {v0 : Nat} {v1 : Int32} (h : fX5_abort x9 k9 v0 v1 M = some (r9, M9)) : Fn l x9 yX5_abort cX5_abort 2 none 1 22 [.ref v0, .int v1] M none M9 :=
  Fn.of (by decide +kernel) (Nat.le_of_ble_eq_true rfl) rfl (fun K _ hE => tX5_abort_0 hE _ _ _ h)
/-! X5_again -/
def fX5_again_40 (x9 : Cx) (k9 : Nat) (M : Mm) : Option (Int32 × Mm) :=
  some ((0 : Int32), M)
set_option maxRecDepth 100000 in
set_option maxHeartbeats 4000000 in
theorem tX5_again_40 {x9 : Cx} {K : Ct} {k9 : Nat} {M0 M9 : Mm} {r9 : Int32} (hE : Ce x9 K RX5 cX5_again 5 (some .int) 1 24 "again" M0) (M : Mm) (h : fX5_again_40 x9 k9 M = some (r9, M9)) : Go x9 K 5 (Qf x9 K M0 (some (.int r9)) M9) 40 [] [] M := by
  have hC := hE.1
  have hnm := hE.2.2.2.2.2.2.2.1
  unfold fX5_again_40 at h
  refine go_iconst hC dX5_again_40 (v := (0 : Int32)) (by decide +kernel) ?_
  cases h
  exact go_iret hE dX5_again_41
def fX5_again_198 (x9 : Cx) (k9 : Nat) (rec52 : Nat → Int32 → Int32 → Int32 → Mm → Option (Int32 × Mm)) (v0 : Nat) (v2 : Int32) (v3 : Int32) (v4 : Int32) (M : Mm) : Option (Int32 × Mm) :=
  rec52 v0 v2 v3 (v4 + 1) M
set_option maxRecDepth 100000 in
set_option maxHeartbeats 4000000 in
theorem tX5_again_198 {x9 : Cx} {K : Ct} {k9 : Nat} {M0 M9 : Mm} {r9 : Int32} (hE : Ce x9 K RX5 cX5_again 5 (some .int) 1 24 "again" M0) {rec52 : Nat → Int32 → Int32 → Int32 → Mm → Option (Int32 × Mm)} (hrec52 : ∀ (v0 : Nat) (v2 : Int32) (v3 : Int32) (v4 : Int32) (M : Mm), rec52 v0 v2 v3 v4 M = some (r9, M9) → Go x9 K 5 (Qf x9 K M0 (some (.int r9)) M9) 52 [(0, .ref v0), (2, .int v2), (3, .int v3), (4, .int v4)] [] M) (v0 : Nat) (v2 : Int32) (v3 : Int32) (v4 : Int32) (M : Mm) (h : fX5_again_198 x9 k9 rec52 v0 v2 v3 v4 M = some (r9, M9)) : Go x9 K 5 (Qf x9 K M0 (some (.int r9)) M9) 198 [(0, .ref v0), (2, .int v2), (3, .int v3), (4, .int v4)] [] M := by
  have hC := hE.1
  have hnm := hE.2.2.2.2.2.2.2.1
  unfold fX5_again_198 at h
  refine go_iinc (q := 3) (v := (v4 + 1)) (lv' := [(4, .int (v4 + 1)), (0, .ref v0), (2, .int v2), (3, .int v3)]) hC dX5_again_198 rfl rfl (by decide) rfl ?_
  refine go_goto (t := 52) hC dX5_again_201 (by decide) ?_
  refine go_sub (lv' := [(0, .ref v0), (2, .int v2), (3, .int v3), (4, .int (v4 + 1))]) [1, 2, 3, 0] rfl ?_
  exact hrec52 _ _ _ _ _ h
def fX5_again_151 (x9 : Cx) (k9 : Nat) (rec52 : Nat → Int32 → Int32 → Int32 → Mm → Option (Int32 × Mm)) (v0 : Nat) (v2 : Int32) (v3 : Int32) (v4 : Int32) (M : Mm) : Option (Int32 × Mm) :=
  if mK M v0 = 6 then ob1 (mP M v0 7) (fun b2 => if mK M b2 = 8 ∧ ¬ (v2 < 0 ∨ mN M b2 ≤ (v2).toNatClampNeg) then if (mV M b2 (v2).toNatClampNeg) ≤ (2 : Int32) then fX5_again_198 x9 k9 rec52 v0 v2 v3 v4 M else if mK M v0 = 6 then ob1 (mP M v0 20) (fun b7 => if mK M b7 = 9 ∧ ¬ (v2 < 0 ∨ mN M b7 ≤ (v2).toNatClampNeg) then if (mV M b7 (v2).toNatClampNeg) = 0 then fX5_again_198 x9 k9 rec52 v0 v2 v3 v4 M else if mK M v0 = 6 then ob1 (mP M v0 13) (fun b12 => if mK M b12 = 9 ∧ ¬ ((((5 : Int32) * v2) + v4) < 0 ∨ mN M b12 ≤ ((((5 : Int32) * v2) + v4)).toNatClampNeg) then if (mV M b12 ((((5 : Int32) * v2) + v4)).toNatClampNeg) = 0 then fX5_again_198 x9 k9 rec52 v0 v2 v3 v4 M else if mK M v0 = 6 then ob1 (mP M v0 6) (fun b17 => if mK M b17 = 8 ∧ ¬ (v2 < 0 ∨ mN M b17 ≤ (v2).toNatClampNeg) then if mK M v0 = 6 then ob2 (fX5_send x9 k9 v0 (4 : Int32) (mV M b17 (v2).toNatClampNeg) v4 v2 M) (fun r20 M21 => fX5_again_198 x9 k9 rec52 v0 v2 v3 v4 M21) else none else none) else none else none) else none else none) else none else none) else none
set_option maxRecDepth 100000 in
set_option maxHeartbeats 4000000 in
theorem tX5_again_151 {x9 : Cx} {K : Ct} {k9 : Nat} {M0 M9 : Mm} {r9 : Int32} (hE : Ce x9 K RX5 cX5_again 5 (some .int) 1 24 "again" M0) {rec52 : Nat → Int32 → Int32 → Int32 → Mm → Option (Int32 × Mm)} (hrec52 : ∀ (v0 : Nat) (v2 : Int32) (v3 : Int32) (v4 : Int32) (M : Mm), rec52 v0 v2 v3 v4 M = some (r9, M9) → Go x9 K 5 (Qf x9 K M0 (some (.int r9)) M9) 52 [(0, .ref v0), (2, .int v2), (3, .int v3), (4, .int v4)] [] M) (v0 : Nat) (v2 : Int32) (v3 : Int32) (v4 : Int32) (M : Mm) (h : fX5_again_151 x9 k9 rec52 v0 v2 v3 v4 M = some (r9, M9)) : Go x9 K 5 (Qf x9 K M0 (some (.int r9)) M9) 151 [(0, .ref v0), (2, .int v2), (3, .int v3), (4, .int v4)] [] M := by
  have hC := hE.1
  have hnm := hE.2.2.2.2.2.2.2.1
  unfold fX5_again_151 at h
  refine go_aload_n hC dX5_again_151 rfl 0 rfl ?_
  obtain ⟨h1, h⟩ := os_1 h
  obtain ⟨b2, h3, h⟩ := os_b h
  refine go_getR 7 hC h1 rfl rfl h3 (C := RX5) (T := TX5) (N := 28) rfl inlX5 (by decide) m_81 (Or.inl rfl) dX5_again_152 ?_
  refine go_iload_n hC dX5_again_155 rfl 1 rfl ?_
  obtain ⟨h4, h⟩ := os_1 h
  refine go_iald hC h4.1 h4.2 dX5_again_156 ?_
  refine go_iconst hC dX5_again_157 (v := (2 : Int32)) (by decide +kernel) ?_
  refine go_icmp_le (t := 198) hC dX5_again_158 (by decide) (fun c5 => ?_) (fun c5 => ?_)
  · have h := os_t h c5
    exact tX5_again_198 hE hrec52 _ _ _ _ _ h
  · have h := os_f h c5
    refine go_aload_n hC dX5_again_161 rfl 0 rfl ?_
    obtain ⟨h6, h⟩ := os_1 h
    obtain ⟨b7, h8, h⟩ := os_b h
    refine go_getR 20 hC h6 rfl rfl h8 (C := RX5) (T := TX5) (N := 28) rfl inlX5 (by decide) m_94 (Or.inl rfl) dX5_again_162 ?_
    refine go_iload_n hC dX5_again_165 rfl 1 rfl ?_
    obtain ⟨h9, h⟩ := os_1 h
    refine go_zald hC h9.1 h9.2 dX5_again_166 ?_
    refine go_if_eq (t := 198) hC dX5_again_167 (by decide) (fun c10 => ?_) (fun c10 => ?_)
    · have h := os_t h c10
      exact tX5_again_198 hE hrec52 _ _ _ _ _ h
    · have h := os_f h c10
      refine go_aload_n hC dX5_again_170 rfl 0 rfl ?_
      obtain ⟨h11, h⟩ := os_1 h
      obtain ⟨b12, h13, h⟩ := os_b h
      refine go_getR 13 hC h11 rfl rfl h13 (C := RX5) (T := TX5) (N := 28) rfl inlX5 (by decide) m_87 (Or.inl rfl) dX5_again_171 ?_
      refine go_iconst hC dX5_again_174 (v := (5 : Int32)) (by decide +kernel) ?_
      refine go_iload_n hC dX5_again_175 rfl 1 rfl ?_
      refine go_imul hC dX5_again_176 ?_
      refine go_iload hC dX5_again_177 3 rfl ?_
      refine go_iadd hC dX5_again_179 ?_
      obtain ⟨h14, h⟩ := os_1 h
      refine go_zald hC h14.1 h14.2 dX5_again_180 ?_
      refine go_if_eq (t := 198) hC dX5_again_181 (by decide) (fun c15 => ?_) (fun c15 => ?_)
      · have h := os_t h c15
        exact tX5_again_198 hE hrec52 _ _ _ _ _ h
      · have h := os_f h c15
        refine go_aload_n hC dX5_again_184 rfl 0 rfl ?_
        refine go_iconst hC dX5_again_185 (v := (4 : Int32)) (by decide +kernel) ?_
        refine go_aload_n hC dX5_again_186 rfl 0 rfl ?_
        obtain ⟨h16, h⟩ := os_1 h
        obtain ⟨b17, h18, h⟩ := os_b h
        refine go_getR 6 hC h16 rfl rfl h18 (C := RX5) (T := TX5) (N := 28) rfl inlX5 (by decide) m_80 (Or.inl rfl) dX5_again_187 ?_
        refine go_iload_n hC dX5_again_190 rfl 1 rfl ?_
        obtain ⟨h19, h⟩ := os_1 h
        refine go_iald hC h19.1 h19.2 dX5_again_191 ?_
        refine go_iload hC dX5_again_192 3 rfl ?_
        refine go_iload_n hC dX5_again_194 rfl 1 rfl ?_
        obtain ⟨h23, h⟩ := os_1 h
        obtain ⟨r20, M21, h22, h⟩ := os_c h
        refine go_callV (bytes := cX5_send) (maxL := 5) (ret := none) (n := 4) (As := [.int (4 : Int32), .int (mV M b17 (v2).toNatClampNeg), .int v4, .int v2]) (st := []) hE (c_X5_send K.2.1 h22) (by unfold okY; decide +kernel) rfl h23 rfl (C := RX5) (T := TX5) (N := 28) rfl m_503 m_500 m_501 m_502 m_5 rfl (by simp [Value.category]) (by decide) (by decide) dX5_again_195 ?_
        refine go_eq (pc' := 198) (st' := []) (M' := M21) (lv' := [(0, .ref v0), (2, .int v2), (3, .int v3), (4, .int v4)]) ?_ rfl rfl rfl rfl
        exact tX5_again_198 hE hrec52 _ _ _ _ _ h
def fX5_again_113 (x9 : Cx) (k9 : Nat) (rec52 : Nat → Int32 → Int32 → Int32 → Mm → Option (Int32 × Mm)) (v0 : Nat) (v2 : Int32) (v3 : Int32) (v4 : Int32) (M : Mm) : Option (Int32 × Mm) :=
  if mK M v0 = 6 then ob1 (mP M v0 7) (fun b2 => if mK M b2 = 8 ∧ ¬ (v2 < 0 ∨ mN M b2 ≤ (v2).toNatClampNeg) then if (mV M b2 (v2).toNatClampNeg) = (2 : Int32) then if mK M v0 = 6 then ob1 (mP M v0 10) (fun b7 => if mK M b7 = 8 ∧ ¬ ((((5 : Int32) * v2) + v4) < 0 ∨ mN M b7 ≤ ((((5 : Int32) * v2) + v4)).toNatClampNeg) then if (mV M b7 ((((5 : Int32) * v2) + v4)).toNatClampNeg) = 0 then if mK M v0 = 6 then ob1 (mP M v0 6) (fun b12 => if mK M b12 = 8 ∧ ¬ (v2 < 0 ∨ mN M b12 ≤ (v2).toNatClampNeg) then if mK M v0 = 6 then ob2 (fX5_send x9 k9 v0 (5 : Int32) (mV M b12 (v2).toNatClampNeg) v4 v2 M) (fun r15 M16 => fX5_again_151 x9 k9 rec52 v0 v2 v3 v4 M16) else none else none) else none else fX5_again_151 x9 k9 rec52 v0 v2 v3 v4 M else none) else none else fX5_again_151 x9 k9 rec52 v0 v2 v3 v4 M else none) else none
set_option maxRecDepth 100000 in
set_option maxHeartbeats 4000000 in
theorem tX5_again_113 {x9 : Cx} {K : Ct} {k9 : Nat} {M0 M9 : Mm} {r9 : Int32} (hE : Ce x9 K RX5 cX5_again 5 (some .int) 1 24 "again" M0) {rec52 : Nat → Int32 → Int32 → Int32 → Mm → Option (Int32 × Mm)} (hrec52 : ∀ (v0 : Nat) (v2 : Int32) (v3 : Int32) (v4 : Int32) (M : Mm), rec52 v0 v2 v3 v4 M = some (r9, M9) → Go x9 K 5 (Qf x9 K M0 (some (.int r9)) M9) 52 [(0, .ref v0), (2, .int v2), (3, .int v3), (4, .int v4)] [] M) (v0 : Nat) (v2 : Int32) (v3 : Int32) (v4 : Int32) (M : Mm) (h : fX5_again_113 x9 k9 rec52 v0 v2 v3 v4 M = some (r9, M9)) : Go x9 K 5 (Qf x9 K M0 (some (.int r9)) M9) 113 [(0, .ref v0), (2, .int v2), (3, .int v3), (4, .int v4)] [] M := by
  have hC := hE.1
  have hnm := hE.2.2.2.2.2.2.2.1
  unfold fX5_again_113 at h
  refine go_aload_n hC dX5_again_113 rfl 0 rfl ?_
  obtain ⟨h1, h⟩ := os_1 h
  obtain ⟨b2, h3, h⟩ := os_b h
  refine go_getR 7 hC h1 rfl rfl h3 (C := RX5) (T := TX5) (N := 28) rfl inlX5 (by decide) m_81 (Or.inl rfl) dX5_again_114 ?_
  refine go_iload_n hC dX5_again_117 rfl 1 rfl ?_
  obtain ⟨h4, h⟩ := os_1 h
  refine go_iald hC h4.1 h4.2 dX5_again_118 ?_
  refine go_iconst hC dX5_again_119 (v := (2 : Int32)) (by decide +kernel) ?_
  refine go_icmp_ne (t := 151) hC dX5_again_120 (by decide) (fun c5 => ?_) (fun c5 => ?_)
  · have h := os_f h c5
    exact tX5_again_151 hE hrec52 _ _ _ _ _ h
  · have h := os_t h c5
    refine go_aload_n hC dX5_again_123 rfl 0 rfl ?_
    obtain ⟨h6, h⟩ := os_1 h
    obtain ⟨b7, h8, h⟩ := os_b h
    refine go_getR 10 hC h6 rfl rfl h8 (C := RX5) (T := TX5) (N := 28) rfl inlX5 (by decide) m_84 (Or.inl rfl) dX5_again_124 ?_
    refine go_iconst hC dX5_again_127 (v := (5 : Int32)) (by decide +kernel) ?_
    refine go_iload_n hC dX5_again_128 rfl 1 rfl ?_
    refine go_imul hC dX5_again_129 ?_
    refine go_iload hC dX5_again_130 3 rfl ?_
    refine go_iadd hC dX5_again_132 ?_
    obtain ⟨h9, h⟩ := os_1 h
    refine go_iald hC h9.1 h9.2 dX5_again_133 ?_
    refine go_if_ne (t := 151) hC dX5_again_134 (by decide) (fun c10 => ?_) (fun c10 => ?_)
    · have h := os_f h c10
      exact tX5_again_151 hE hrec52 _ _ _ _ _ h
    · have h := os_t h c10
      refine go_aload_n hC dX5_again_137 rfl 0 rfl ?_
      refine go_iconst hC dX5_again_138 (v := (5 : Int32)) (by decide +kernel) ?_
      refine go_aload_n hC dX5_again_139 rfl 0 rfl ?_
      obtain ⟨h11, h⟩ := os_1 h
      obtain ⟨b12, h13, h⟩ := os_b h
      refine go_getR 6 hC h11 rfl rfl h13 (C := RX5) (T := TX5) (N := 28) rfl inlX5 (by decide) m_80 (Or.inl rfl) dX5_again_140 ?_
      refine go_iload_n hC dX5_again_143 rfl 1 rfl ?_
      obtain ⟨h14, h⟩ := os_1 h
      refine go_iald hC h14.1 h14.2 dX5_again_144 ?_
      refine go_iload hC dX5_again_145 3 rfl ?_
      refine go_iload_n hC dX5_again_147 rfl 1 rfl ?_
      obtain ⟨h18, h⟩ := os_1 h
      obtain ⟨r15, M16, h17, h⟩ := os_c h
      refine go_callV (bytes := cX5_send) (maxL := 5) (ret := none) (n := 4) (As := [.int (5 : Int32), .int (mV M b12 (v2).toNatClampNeg), .int v4, .int v2]) (st := []) hE (c_X5_send K.2.1 h17) (by unfold okY; decide +kernel) rfl h18 rfl (C := RX5) (T := TX5) (N := 28) rfl m_503 m_500 m_501 m_502 m_5 rfl (by simp [Value.category]) (by decide) (by decide) dX5_again_148 ?_
      refine go_eq (pc' := 151) (st' := []) (M' := M16) (lv' := [(0, .ref v0), (2, .int v2), (3, .int v3), (4, .int v4)]) ?_ rfl rfl rfl rfl
      exact tX5_again_151 hE hrec52 _ _ _ _ _ h
def fX5_again_52 (x9 : Cx) (k9 : Nat) : Nat → Nat → Int32 → Int32 → Int32 → Mm → Option (Int32 × Mm)
  | 0, _, _, _, _, _ => none
  | n9 + 1, v0, v2, v3, v4, M => if mK M v0 = 6 then if (mV M v0 0) ≤ v4 then if mK M v0 = 6 then some (((mV M v0 24) - v3), M) else none else if mK M v0 = 6 then ob1 (mP M v0 7) (fun b5 => if mK M b5 = 8 ∧ ¬ (v2 < 0 ∨ mN M b5 ≤ (v2).toNatClampNeg) then if (mV M b5 (v2).toNatClampNeg) = (1 : Int32) then if mK M v0 = 6 then ob1 (mP M v0 13) (fun b10 => if mK M b10 = 9 ∧ ¬ ((((5 : Int32) * v2) + v4) < 0 ∨ mN M b10 ≤ ((((5 : Int32) * v2) + v4)).toNatClampNeg) then if (mV M b10 ((((5 : Int32) * v2) + v4)).toNatClampNeg) = 0 then fX5_again_113 x9 k9 (fX5_again_52 x9 k9 n9) v0 v2 v3 v4 M else if mK M v0 = 6 then ob1 (mP M v0 14) (fun b15 => if mK M b15 = 9 ∧ ¬ ((((5 : Int32) * v2) + v4) < 0 ∨ mN M b15 ≤ ((((5 : Int32) * v2) + v4)).toNatClampNeg) then if (mV M b15 ((((5 : Int32) * v2) + v4)).toNatClampNeg) = 0 then if mK M v0 = 6 then ob1 (mP M v0 6) (fun b20 => if mK M b20 = 8 ∧ ¬ (v2 < 0 ∨ mN M b20 ≤ (v2).toNatClampNeg) then if mK M v0 = 6 then ob2 (fX5_send x9 k9 v0 (1 : Int32) (mV M b20 (v2).toNatClampNeg) v4 v2 M) (fun r23 M24 => fX5_again_113 x9 k9 (fX5_again_52 x9 k9 n9) v0 v2 v3 v4 M24) else none else none) else none else fX5_again_113 x9 k9 (fX5_again_52 x9 k9 n9) v0 v2 v3 v4 M else none) else none else none) else none else fX5_again_113 x9 k9 (fX5_again_52 x9 k9 n9) v0 v2 v3 v4 M else none) else none else none
set_option maxRecDepth 100000 in
set_option maxHeartbeats 4000000 in
theorem tX5_again_52 {x9 : Cx} {K : Ct} {k9 : Nat} {M0 M9 : Mm} {r9 : Int32} (hE : Ce x9 K RX5 cX5_again 5 (some .int) 1 24 "again" M0) : ∀ (n9 : Nat) (v0 : Nat) (v2 : Int32) (v3 : Int32) (v4 : Int32) (M : Mm), fX5_again_52 x9 k9 n9 v0 v2 v3 v4 M = some (r9, M9) → Go x9 K 5 (Qf x9 K M0 (some (.int r9)) M9) 52 [(0, .ref v0), (2, .int v2), (3, .int v3), (4, .int v4)] [] M := by
  have hC := hE.1
  have hnm := hE.2.2.2.2.2.2.2.1
  intro n9
  induction n9 with
  | zero => intro _ _ _ _ _ h; cases h
  | succ n9 ih =>
    intro v0 v2 v3 v4 M h
    rw [fX5_again_52] at h
    refine go_iload hC dX5_again_52 3 rfl ?_
    refine go_aload_n hC dX5_again_54 rfl 0 rfl ?_
    obtain ⟨h1, h⟩ := os_1 h
    refine go_getV 0 hC h1 rfl rfl (C := RX5) (T := TX5) (N := 28) rfl inlX5 (by decide) m_75 (Or.inl rfl) dX5_again_55 ?_
    refine go_icmp_ge (t := 204) hC dX5_again_58 (by decide) (fun c2 => ?_) (fun c2 => ?_)
    · have h := os_t h c2
      refine go_aload_n hC dX5_again_204 rfl 0 rfl ?_
      obtain ⟨h3, h⟩ := os_1 h
      refine go_getV 24 hC h3 rfl rfl (C := RX5) (T := TX5) (N := 28) rfl inlX5 (by decide) m_105 (Or.inl rfl) dX5_again_205 ?_
      refine go_iload_n hC dX5_again_208 rfl 2 rfl ?_
      refine go_isub hC dX5_again_209 ?_
      cases h
      exact go_iret hE dX5_again_210
    · have h := os_f h c2
      refine go_aload_n hC dX5_again_61 rfl 0 rfl ?_
      obtain ⟨h4, h⟩ := os_1 h
      obtain ⟨b5, h6, h⟩ := os_b h
      refine go_getR 7 hC h4 rfl rfl h6 (C := RX5) (T := TX5) (N := 28) rfl inlX5 (by decide) m_81 (Or.inl rfl) dX5_again_62 ?_
      refine go_iload_n hC dX5_again_65 rfl 1 rfl ?_
      obtain ⟨h7, h⟩ := os_1 h
      refine go_iald hC h7.1 h7.2 dX5_again_66 ?_
      refine go_iconst hC dX5_again_67 (v := (1 : Int32)) (by decide +kernel) ?_
      refine go_icmp_ne (t := 113) hC dX5_again_68 (by decide) (fun c8 => ?_) (fun c8 => ?_)
      · have h := os_f h c8
        exact tX5_again_113 hE ih _ _ _ _ _ h
      · have h := os_t h c8
        refine go_aload_n hC dX5_again_71 rfl 0 rfl ?_
        obtain ⟨h9, h⟩ := os_1 h
        obtain ⟨b10, h11, h⟩ := os_b h
        refine go_getR 13 hC h9 rfl rfl h11 (C := RX5) (T := TX5) (N := 28) rfl inlX5 (by decide) m_87 (Or.inl rfl) dX5_again_72 ?_
        refine go_iconst hC dX5_again_75 (v := (5 : Int32)) (by decide +kernel) ?_
        refine go_iload_n hC dX5_again_76 rfl 1 rfl ?_
        refine go_imul hC dX5_again_77 ?_
        refine go_iload hC dX5_again_78 3 rfl ?_
        refine go_iadd hC dX5_again_80 ?_
        obtain ⟨h12, h⟩ := os_1 h
        refine go_zald hC h12.1 h12.2 dX5_again_81 ?_
        refine go_if_eq (t := 113) hC dX5_again_82 (by decide) (fun c13 => ?_) (fun c13 => ?_)
        · have h := os_t h c13
          exact tX5_again_113 hE ih _ _ _ _ _ h
        · have h := os_f h c13
          refine go_aload_n hC dX5_again_85 rfl 0 rfl ?_
          obtain ⟨h14, h⟩ := os_1 h
          obtain ⟨b15, h16, h⟩ := os_b h
          refine go_getR 14 hC h14 rfl rfl h16 (C := RX5) (T := TX5) (N := 28) rfl inlX5 (by decide) m_88 (Or.inl rfl) dX5_again_86 ?_
          refine go_iconst hC dX5_again_89 (v := (5 : Int32)) (by decide +kernel) ?_
          refine go_iload_n hC dX5_again_90 rfl 1 rfl ?_
          refine go_imul hC dX5_again_91 ?_
          refine go_iload hC dX5_again_92 3 rfl ?_
          refine go_iadd hC dX5_again_94 ?_
          obtain ⟨h17, h⟩ := os_1 h
          refine go_zald hC h17.1 h17.2 dX5_again_95 ?_
          refine go_if_ne (t := 113) hC dX5_again_96 (by decide) (fun c18 => ?_) (fun c18 => ?_)
          · have h := os_f h c18
            exact tX5_again_113 hE ih _ _ _ _ _ h
          · have h := os_t h c18
            refine go_aload_n hC dX5_again_99 rfl 0 rfl ?_
            refine go_iconst hC dX5_again_100 (v := (1 : Int32)) (by decide +kernel) ?_
            refine go_aload_n hC dX5_again_101 rfl 0 rfl ?_
            obtain ⟨h19, h⟩ := os_1 h
            obtain ⟨b20, h21, h⟩ := os_b h
            refine go_getR 6 hC h19 rfl rfl h21 (C := RX5) (T := TX5) (N := 28) rfl inlX5 (by decide) m_80 (Or.inl rfl) dX5_again_102 ?_
            refine go_iload_n hC dX5_again_105 rfl 1 rfl ?_
            obtain ⟨h22, h⟩ := os_1 h
            refine go_iald hC h22.1 h22.2 dX5_again_106 ?_
            refine go_iload hC dX5_again_107 3 rfl ?_
            refine go_iload_n hC dX5_again_109 rfl 1 rfl ?_
            obtain ⟨h26, h⟩ := os_1 h
            obtain ⟨r23, M24, h25, h⟩ := os_c h
            refine go_callV (bytes := cX5_send) (maxL := 5) (ret := none) (n := 4) (As := [.int (1 : Int32), .int (mV M b20 (v2).toNatClampNeg), .int v4, .int v2]) (st := []) hE (c_X5_send K.2.1 h25) (by unfold okY; decide +kernel) rfl h26 rfl (C := RX5) (T := TX5) (N := 28) rfl m_503 m_500 m_501 m_502 m_5 rfl (by simp [Value.category]) (by decide) (by decide) dX5_again_110 ?_
            refine go_eq (pc' := 113) (st' := []) (M' := M24) (lv' := [(0, .ref v0), (2, .int v2), (3, .int v3), (4, .int v4)]) ?_ rfl rfl rfl rfl
            exact tX5_again_113 hE ih _ _ _ _ _ h
def fX5_again_14 (x9 : Cx) (k9 : Nat) (v0 : Nat) (v1 : Int32) (s0 : Nat) (s1 : Int32) (M : Mm) : Option (Int32 × Mm) :=
  if mK M s0 = 6 then ob2 (fX5_fails x9 k9 s0 s1 (1 : Int32) M) (fun r1 M2 => if r1 = 0 then if mK M2 v0 = 6 then ob1 (mP M2 v0 2) (fun b7 => if mK M2 v0 = 6 then ob1 (mP M2 v0 6) (fun b10 => if mK M2 b10 = 8 ∧ ¬ (v1 < 0 ∨ mN M2 b10 ≤ (v1).toNatClampNeg) then if mK M2 b7 = 9 ∧ ¬ ((mV M2 b10 (v1).toNatClampNeg) < 0 ∨ mN M2 b7 ≤ ((mV M2 b10 (v1).toNatClampNeg)).toNatClampNeg) then if mK M2 v0 = 6 then ob2 (fX5_fails x9 k9 v0 (mV M2 b7 ((mV M2 b10 (v1).toNatClampNeg)).toNatClampNeg) (2 : Int32) M2) (fun r14 M15 => if r14 = 0 then if mK M15 v0 = 6 then fX5_again_52 x9 k9 k9 v0 v1 (mV M15 v0 24) (0 : Int32) M15 else none else fX5_again_40 x9 k9 M15) else none else none else none) else none) else none else fX5_again_40 x9 k9 M2) else none
set_option maxRecDepth 100000 in
set_option maxHeartbeats 4000000 in
theorem tX5_again_14 {x9 : Cx} {K : Ct} {k9 : Nat} {M0 M9 : Mm} {r9 : Int32} (hE : Ce x9 K RX5 cX5_again 5 (some .int) 1 24 "again" M0) (v0 : Nat) (v1 : Int32) (s0 : Nat) (s1 : Int32) (M : Mm) (h : fX5_again_14 x9 k9 v0 v1 s0 s1 M = some (r9, M9)) : Go x9 K 5 (Qf x9 K M0 (some (.int r9)) M9) 14 [(0, .ref v0), (1, .int v1)] [.int s1, .ref s0] M := by
  have hC := hE.1
  have hnm := hE.2.2.2.2.2.2.2.1
  unfold fX5_again_14 at h
  refine go_iconst hC dX5_again_14 (v := (1 : Int32)) (by decide +kernel) ?_
  obtain ⟨h4, h⟩ := os_1 h
  obtain ⟨r1, M2, h3, h⟩ := os_c h
  refine go_callV (bytes := cX5_fails) (maxL := 3) (ret := (some .boolean)) (n := 2) (As := [.int s1, .int (1 : Int32)]) (st := []) hE (c_X5_fails K.2.1 h3) (by unfold okY; decide +kernel) rfl h4 rfl (C := RX5) (T := TX5) (N := 28) rfl m_127 m_124 m_125 m_126 m_5 rfl (by simp [Value.category]) (by decide) (by decide) dX5_again_15 ?_
  refine go_eq (pc' := 18) (st' := [.int r1]) (M' := M2) (lv' := [(0, .ref v0), (1, .int v1)]) ?_ rfl rfl rfl rfl
  refine go_if_ne (t := 40) hC dX5_again_18 (by decide) (fun c5 => ?_) (fun c5 => ?_)
  · have h := os_f h c5
    refine go_sub (lv' := []) [] rfl ?_
    exact tX5_again_40 hE _ h
  · have h := os_t h c5
    refine go_aload_n hC dX5_again_21 rfl 0 rfl ?_
    refine go_aload_n hC dX5_again_22 rfl 0 rfl ?_
    obtain ⟨h6, h⟩ := os_1 h
    obtain ⟨b7, h8, h⟩ := os_b h
    refine go_getR 2 hC h6 rfl rfl h8 (C := RX5) (T := TX5) (N := 28) rfl inlX5 (by decide) m_78 (Or.inl rfl) dX5_again_23 ?_
    refine go_aload_n hC dX5_again_26 rfl 0 rfl ?_
    obtain ⟨h9, h⟩ := os_1 h
    obtain ⟨b10, h11, h⟩ := os_b h
    refine go_getR 6 hC h9 rfl rfl h11 (C := RX5) (T := TX5) (N := 28) rfl inlX5 (by decide) m_80 (Or.inl rfl) dX5_again_27 ?_
    refine go_iload_n hC dX5_again_30 rfl 1 rfl ?_
    obtain ⟨h12, h⟩ := os_1 h
    refine go_iald hC h12.1 h12.2 dX5_again_31 ?_
    obtain ⟨h13, h⟩ := os_1 h
    refine go_zald hC h13.1 h13.2 dX5_again_32 ?_
    refine go_iconst hC dX5_again_33 (v := (2 : Int32)) (by decide +kernel) ?_
    obtain ⟨h17, h⟩ := os_1 h
    obtain ⟨r14, M15, h16, h⟩ := os_c h
    refine go_callV (bytes := cX5_fails) (maxL := 3) (ret := (some .boolean)) (n := 2) (As := [.int (mV M2 b7 ((mV M2 b10 (v1).toNatClampNeg)).toNatClampNeg), .int (2 : Int32)]) (st := []) hE (c_X5_fails K.2.1 h16) (by unfold okY; decide +kernel) rfl h17 rfl (C := RX5) (T := TX5) (N := 28) rfl m_127 m_124 m_125 m_126 m_5 rfl (by simp [Value.category]) (by decide) (by decide) dX5_again_34 ?_
    refine go_eq (pc' := 37) (st' := [.int r14]) (M' := M15) (lv' := [(0, .ref v0), (1, .int v1)]) ?_ rfl rfl rfl rfl
    refine go_if_eq (t := 42) hC dX5_again_37 (by decide) (fun c18 => ?_) (fun c18 => ?_)
    · have h := os_t h c18
      refine go_iload_n hC dX5_again_42 rfl 1 rfl ?_
      refine go_istore_n (lv' := [(2, .int v1), (0, .ref v0), (1, .int v1)]) hC dX5_again_43 rfl (by decide) rfl ?_
      refine go_aload_n hC dX5_again_44 rfl 1 rfl ?_
      obtain ⟨h19, h⟩ := os_1 h
      refine go_getV 24 hC h19 rfl rfl (C := RX5) (T := TX5) (N := 28) rfl inlX5 (by decide) m_105 (Or.inl rfl) dX5_again_45 ?_
      refine go_istore_n (lv' := [(3, .int (mV M15 v0 24)), (2, .int v1), (0, .ref v0), (1, .int v1)]) hC dX5_again_48 rfl (by decide) rfl ?_
      refine go_iconst hC dX5_again_49 (v := (0 : Int32)) (by decide +kernel) ?_
      refine go_istore (lv' := [(4, .int (0 : Int32)), (3, .int (mV M15 v0 24)), (2, .int v1), (0, .ref v0), (1, .int v1)]) hC dX5_again_50 (by decide) rfl ?_
      refine go_sub (lv' := [(0, .ref v0), (2, .int v1), (3, .int (mV M15 v0 24)), (4, .int (0 : Int32))]) [3, 2, 1, 0] rfl ?_
      exact tX5_again_52 hE k9 _ _ _ _ _ h
    · have h := os_f h c18
      refine go_sub (lv' := []) [] rfl ?_
      exact tX5_again_40 hE _ h
def fX5_again (x9 : Cx) (k9 : Nat) (v0 : Nat) (v1 : Int32) (M : Mm) : Option (Int32 × Mm) :=
  if mK M v0 = 6 then ob2 (fX5_isOne x9 k9 v0 v1 M) (fun r1 M2 => if r1 = 0 then fX5_again_14 x9 k9 v0 v1 v0 (1 : Int32) M2 else fX5_again_14 x9 k9 v0 v1 v0 (0 : Int32) M2) else none
set_option maxRecDepth 100000 in
set_option maxHeartbeats 4000000 in
theorem tX5_again_0 {x9 : Cx} {K : Ct} {k9 : Nat} {M0 M9 : Mm} {r9 : Int32} (hE : Ce x9 K RX5 cX5_again 5 (some .int) 1 24 "again" M0) (v0 : Nat) (v1 : Int32) (M : Mm) (h : fX5_again x9 k9 v0 v1 M = some (r9, M9)) : Go x9 K 5 (Qf x9 K M0 (some (.int r9)) M9) 0 [(0, .ref v0), (1, .int v1)] [] M := by
  have hC := hE.1
  have hnm := hE.2.2.2.2.2.2.2.1
  unfold fX5_again at h
  refine go_aload_n hC dX5_again_0 rfl 0 rfl ?_
  refine go_aload_n hC dX5_again_1 rfl 0 rfl ?_
  refine go_iload_n hC dX5_again_2 rfl 1 rfl ?_
  obtain ⟨h4, h⟩ := os_1 h
  obtain ⟨r1, M2, h3, h⟩ := os_c h
  refine go_callV (bytes := cX5_isOne) (maxL := 2) (ret := (some .boolean)) (n := 1) (As := [.int v1]) (st := [.ref v0]) hE (c_X5_isOne K.2.1 h3) (by unfold okY; decide +kernel) rfl h4 rfl (C := RX5) (T := TX5) (N := 28) rfl m_301 m_298 m_299 m_300 m_5 rfl (by simp [Value.category]) (by decide) (by decide) dX5_again_3 ?_
  refine go_eq (pc' := 6) (st' := [.int r1, .ref v0]) (M' := M2) (lv' := [(0, .ref v0), (1, .int v1)]) ?_ rfl rfl rfl rfl
  refine go_if_ne (t := 13) hC dX5_again_6 (by decide) (fun c5 => ?_) (fun c5 => ?_)
  · have h := os_f h c5
    refine go_iconst hC dX5_again_13 (v := (0 : Int32)) (by decide +kernel) ?_
    exact tX5_again_14 hE _ _ _ _ _ h
  · have h := os_t h c5
    refine go_iconst hC dX5_again_9 (v := (1 : Int32)) (by decide +kernel) ?_
    refine go_goto (t := 14) hC dX5_again_10 (by decide) ?_
    exact tX5_again_14 hE _ _ _ _ _ h
theorem c_X5_again (l : Launch) {x9 : Cx} {k9 : Nat} {M M9 : Mm} {r9 : Int32} {v0 : Nat} {v1 : Int32} (h : fX5_again x9 k9 v0 v1 M = some (r9, M9)) : Fn l x9 yX5_again cX5_again 5 (some .int) 1 24 [.ref v0, .int v1] M (some (.int r9)) M9 :=
  Fn.of (by decide +kernel) (Nat.le_of_ble_eq_true rfl) rfl (fun K _ hE => tX5_again_0 hE _ _ _ h)
/-! X5_isNext -/
def fX5_isNext_84 (x9 : Cx) (k9 : Nat) (rec48 : Nat → Int32 → Int32 → Int32 → Int32 → Mm → Option (Int32 × Mm)) (v0 : Nat) (v1 : Int32) (v2 : Int32) (v3 : Int32) (v4 : Int32) (M : Mm) : Option (Int32 × Mm) :=
  rec48 v0 v1 v2 v3 (v4 + 1) M
set_option maxRecDepth 100000 in
set_option maxHeartbeats 4000000 in
theorem tX5_isNext_84 {x9 : Cx} {K : Ct} {k9 : Nat} {M0 M9 : Mm} {r9 : Int32} (hE : Ce x9 K RX5 cX5_isNext 5 (some .boolean) 0 0 "isNext" M0) {rec48 : Nat → Int32 → Int32 → Int32 → Int32 → Mm → Option (Int32 × Mm)} (hrec48 : ∀ (v0 : Nat) (v1 : Int32) (v2 : Int32) (v3 : Int32) (v4 : Int32) (M : Mm), rec48 v0 v1 v2 v3 v4 M = some (r9, M9) → Go x9 K 5 (Qf x9 K M0 (some (.int r9)) M9) 48 [(0, .ref v0), (1, .int v1), (2, .int v2), (3, .int v3), (4, .int v4)] [] M) (v0 : Nat) (v1 : Int32) (v2 : Int32) (v3 : Int32) (v4 : Int32) (M : Mm) (h : fX5_isNext_84 x9 k9 rec48 v0 v1 v2 v3 v4 M = some (r9, M9)) : Go x9 K 5 (Qf x9 K M0 (some (.int r9)) M9) 84 [(0, .ref v0), (1, .int v1), (2, .int v2), (3, .int v3), (4, .int v4)] [] M := by
  have hC := hE.1
  have hnm := hE.2.2.2.2.2.2.2.1
  unfold fX5_isNext_84 at h
  refine go_iinc (q := 4) (v := (v4 + 1)) (lv' := [(4, .int (v4 + 1)), (0, .ref v0), (1, .int v1), (2, .int v2), (3, .int v3)]) hC dX5_isNext_84 rfl rfl (by decide) rfl ?_
  refine go_goto (t := 48) hC dX5_isNext_87 (by decide) ?_
  refine go_sub (lv' := [(0, .ref v0), (1, .int v1), (2, .int v2), (3, .int v3), (4, .int (v4 + 1))]) [1, 2, 3, 4, 0] rfl ?_
  exact hrec48 _ _ _ _ _ _ h
def fX5_isNext_48 (x9 : Cx) (k9 : Nat) : Nat → Nat → Int32 → Int32 → Int32 → Int32 → Mm → Option (Int32 × Mm)
  | 0, _, _, _, _, _, _ => none
  | n9 + 1, v0, v1, v2, v3, v4, M => if mK M v0 = 6 then if (mV M v0 0) ≤ v4 then if v3 = 0 ∨ v3 = 1 then some (v3, M) else none else if mK M v0 = 6 then ob1 (mP M v0 9) (fun b5 => if mK M b5 = 8 ∧ ¬ ((((5 : Int32) * v1) + v4) < 0 ∨ mN M b5 ≤ ((((5 : Int32) * v1) + v4)).toNatClampNeg) then if mK M v0 = 6 then ob1 (mP M v0 1) (fun b9 => if mK M b9 = 8 ∧ ¬ ((((5 : Int32) * v2) + v4) < 0 ∨ mN M b9 ≤ ((((5 : Int32) * v2) + v4)).toNatClampNeg) then if (mV M b5 ((((5 : Int32) * v1) + v4)).toNatClampNeg) ≤ (mV M b9 ((((5 : Int32) * v2) + v4)).toNatClampNeg) then fX5_isNext_84 x9 k9 (fX5_isNext_48 x9 k9 n9) v0 v1 v2 v3 v4 M else fX5_isNext_84 x9 k9 (fX5_isNext_48 x9 k9 n9) v0 v1 v2 (0 : Int32) v4 M else none) else none else none) else none else none
set_option maxRecDepth 100000 in
set_option maxHeartbeats 4000000 in
theorem tX5_isNext_48 {x9 : Cx} {K : Ct} {k9 : Nat} {M0 M9 : Mm} {r9 : Int32} (hE : Ce x9 K RX5 cX5_isNext 5 (some .boolean) 0 0 "isNext" M0) : ∀ (n9 : Nat) (v0 : Nat) (v1 : Int32) (v2 : Int32) (v3 : Int32) (v4 : Int32) (M : Mm), fX5_isNext_48 x9 k9 n9 v0 v1 v2 v3 v4 M = some (r9, M9) → Go x9 K 5 (Qf x9 K M0 (some (.int r9)) M9) 48 [(0, .ref v0), (1, .int v1), (2, .int v2), (3, .int v3), (4, .int v4)] [] M := by
  have hC := hE.1
  have hnm := hE.2.2.2.2.2.2.2.1
  intro n9
  induction n9 with
  | zero => intro _ _ _ _ _ _ h; cases h
  | succ n9 ih =>
    intro v0 v1 v2 v3 v4 M h
    rw [fX5_isNext_48] at h
    refine go_iload hC dX5_isNext_48 4 rfl ?_
    refine go_aload_n hC dX5_isNext_50 rfl 0 rfl ?_
    obtain ⟨h1, h⟩ := os_1 h
    refine go_getV 0 hC h1 rfl rfl (C := RX5) (T := TX5) (N := 28) rfl inlX5 (by decide) m_75 (Or.inl rfl) dX5_isNext_51 ?_
    refine go_icmp_ge (t := 90) hC dX5_isNext_54 (by decide) (fun c2 => ?_) (fun c2 => ?_)
    · have h := os_t h c2
      refine go_iload_n hC dX5_isNext_90 rfl 3 rfl ?_
      obtain ⟨h3, h⟩ := os_1 h
      cases h
      exact go_zret hE h3 dX5_isNext_91
    · have h := os_f h c2
      refine go_aload_n hC dX5_isNext_57 rfl 0 rfl ?_
      obtain ⟨h4, h⟩ := os_1 h
      obtain ⟨b5, h6, h⟩ := os_b h
      refine go_getR 9 hC h4 rfl rfl h6 (C := RX5) (T := TX5) (N := 28) rfl inlX5 (by decide) m_83 (Or.inl rfl) dX5_isNext_58 ?_
      refine go_iconst hC dX5_isNext_61 (v := (5 : Int32)) (by decide +kernel) ?_
      refine go_iload_n hC dX5_isNext_62 rfl 1 rfl ?_
      refine go_imul hC dX5_isNext_63 ?_
      refine go_iload hC dX5_isNext_64 4 rfl ?_
      refine go_iadd hC dX5_isNext_66 ?_
      obtain ⟨h7, h⟩ := os_1 h
      refine go_iald hC h7.1 h7.2 dX5_isNext_67 ?_
      refine go_aload_n hC dX5_isNext_68 rfl 0 rfl ?_
      obtain ⟨h8, h⟩ := os_1 h
      obtain ⟨b9, h10, h⟩ := os_b h
      refine go_getR 1 hC h8 rfl rfl h10 (C := RX5) (T := TX5) (N := 28) rfl inlX5 (by decide) m_76 (Or.inl rfl) dX5_isNext_69 ?_
      refine go_iconst hC dX5_isNext_72 (v := (5 : Int32)) (by decide +kernel) ?_
      refine go_iload_n hC dX5_isNext_73 rfl 2 rfl ?_
      refine go_imul hC dX5_isNext_74 ?_
      refine go_iload hC dX5_isNext_75 4 rfl ?_
      refine go_iadd hC dX5_isNext_77 ?_
      obtain ⟨h11, h⟩ := os_1 h
      refine go_iald hC h11.1 h11.2 dX5_isNext_78 ?_
      refine go_icmp_le (t := 84) hC dX5_isNext_79 (by decide) (fun c12 => ?_) (fun c12 => ?_)
      · have h := os_t h c12
        exact tX5_isNext_84 hE ih _ _ _ _ _ _ h
      · have h := os_f h c12
        refine go_iconst hC dX5_isNext_82 (v := (0 : Int32)) (by decide +kernel) ?_
        refine go_istore_n (lv' := [(3, .int (0 : Int32)), (0, .ref v0), (1, .int v1), (2, .int v2), (4, .int v4)]) hC dX5_isNext_83 rfl (by decide) rfl ?_
        refine go_sub (lv' := [(0, .ref v0), (1, .int v1), (2, .int v2), (3, .int (0 : Int32)), (4, .int v4)]) [1, 2, 3, 0, 4] rfl ?_
        exact tX5_isNext_84 hE ih _ _ _ _ _ _ h
def fX5_isNext_44 (x9 : Cx) (k9 : Nat) (v0 : Nat) (v1 : Int32) (v2 : Int32) (s0 : Int32) (M : Mm) : Option (Int32 × Mm) :=
  fX5_isNext_48 x9 k9 k9 v0 v1 v2 s0 (0 : Int32) M
set_option maxRecDepth 100000 in
set_option maxHeartbeats 4000000 in
theorem tX5_isNext_44 {x9 : Cx} {K : Ct} {k9 : Nat} {M0 M9 : Mm} {r9 : Int32} (hE : Ce x9 K RX5 cX5_isNext 5 (some .boolean) 0 0 "isNext" M0) (v0 : Nat) (v1 : Int32) (v2 : Int32) (s0 : Int32) (M : Mm) (h : fX5_isNext_44 x9 k9 v0 v1 v2 s0 M = some (r9, M9)) : Go x9 K 5 (Qf x9 K M0 (some (.int r9)) M9) 44 [(0, .ref v0), (1, .int v1), (2, .int v2)] [.int s0] M := by
  have hC := hE.1
  have hnm := hE.2.2.2.2.2.2.2.1
  unfold fX5_isNext_44 at h
  refine go_istore_n (lv' := [(3, .int s0), (0, .ref v0), (1, .int v1), (2, .int v2)]) hC dX5_isNext_44 rfl (by decide) rfl ?_
  refine go_iconst hC dX5_isNext_45 (v := (0 : Int32)) (by decide +kernel) ?_
  refine go_istore (lv' := [(4, .int (0 : Int32)), (3, .int s0), (0, .ref v0), (1, .int v1), (2, .int v2)]) hC dX5_isNext_46 (by decide) rfl ?_
  refine go_sub (lv' := [(0, .ref v0), (1, .int v1), (2, .int v2), (3, .int s0), (4, .int (0 : Int32))]) [2, 3, 4, 1, 0] rfl ?_
  exact tX5_isNext_48 hE k9 _ _ _ _ _ _ h
def fX5_isNext_43 (x9 : Cx) (k9 : Nat) (v0 : Nat) (v1 : Int32) (v2 : Int32) (M : Mm) : Option (Int32 × Mm) :=
  fX5_isNext_44 x9 k9 v0 v1 v2 (0 : Int32) M
set_option maxRecDepth 100000 in
set_option maxHeartbeats 4000000 in
theorem tX5_isNext_43 {x9 : Cx} {K : Ct} {k9 : Nat} {M0 M9 : Mm} {r9 : Int32} (hE : Ce x9 K RX5 cX5_isNext 5 (some .boolean) 0 0 "isNext" M0) (v0 : Nat) (v1 : Int32) (v2 : Int32) (M : Mm) (h : fX5_isNext_43 x9 k9 v0 v1 v2 M = some (r9, M9)) : Go x9 K 5 (Qf x9 K M0 (some (.int r9)) M9) 43 [(0, .ref v0), (1, .int v1), (2, .int v2)] [] M := by
  have hC := hE.1
  have hnm := hE.2.2.2.2.2.2.2.1
  unfold fX5_isNext_43 at h
  refine go_iconst hC dX5_isNext_43 (v := (0 : Int32)) (by decide +kernel) ?_
  exact tX5_isNext_44 hE _ _ _ _ _ h
def fX5_isNext (x9 : Cx) (k9 : Nat) (v0 : Nat) (v1 : Int32) (v2 : Int32) (M : Mm) : Option (Int32 × Mm) :=
  if mK M v0 = 6 then ob1 (mP M v0 11) (fun b2 => if mK M b2 = 9 ∧ ¬ ((((5 : Int32) * v1) + v2) < 0 ∨ mN M b2 ≤ ((((5 : Int32) * v1) + v2)).toNatClampNeg) then if (mV M b2 ((((5 : Int32) * v1) + v2)).toNatClampNeg) = 0 then fX5_isNext_43 x9 k9 v0 v1 v2 M else if mK M v0 = 6 then ob1 (mP M v0 8) (fun b7 => if mK M b7 = 8 ∧ ¬ (v1 < 0 ∨ mN M b7 ≤ (v1).toNatClampNeg) then if mK M v0 = 6 then ob1 (mP M v0 1) (fun b11 => if mK M v0 = 6 then ob1 (mP M v0 6) (fun b14 => if mK M b14 = 8 ∧ ¬ (v1 < 0 ∨ mN M b14 ≤ (v1).toNatClampNeg) then if mK M b11 = 8 ∧ ¬ ((((5 : Int32) * v2) + (mV M b14 (v1).toNatClampNeg)) < 0 ∨ mN M b11 ≤ ((((5 : Int32) * v2) + (mV M b14 (v1).toNatClampNeg))).toNatClampNeg) then if (mV M b7 (v1).toNatClampNeg) = ((mV M b11 ((((5 : Int32) * v2) + (mV M b14 (v1).toNatClampNeg))).toNatClampNeg) + (1 : Int32)) then fX5_isNext_44 x9 k9 v0 v1 v2 (1 : Int32) M else fX5_isNext_43 x9 k9 v0 v1 v2 M else none else none) else none) else none else none) else none else none) else none
set_option maxRecDepth 100000 in
set_option maxHeartbeats 4000000 in
theorem tX5_isNext_0 {x9 : Cx} {K : Ct} {k9 : Nat} {M0 M9 : Mm} {r9 : Int32} (hE : Ce x9 K RX5 cX5_isNext 5 (some .boolean) 0 0 "isNext" M0) (v0 : Nat) (v1 : Int32) (v2 : Int32) (M : Mm) (h : fX5_isNext x9 k9 v0 v1 v2 M = some (r9, M9)) : Go x9 K 5 (Qf x9 K M0 (some (.int r9)) M9) 0 [(0, .ref v0), (1, .int v1), (2, .int v2)] [] M := by
  have hC := hE.1
  have hnm := hE.2.2.2.2.2.2.2.1
  unfold fX5_isNext at h
  refine go_aload_n hC dX5_isNext_0 rfl 0 rfl ?_
  obtain ⟨h1, h⟩ := os_1 h
  obtain ⟨b2, h3, h⟩ := os_b h
  refine go_getR 11 hC h1 rfl rfl h3 (C := RX5) (T := TX5) (N := 28) rfl inlX5 (by decide) m_85 (Or.inl rfl) dX5_isNext_1 ?_
  refine go_iconst hC dX5_isNext_4 (v := (5 : Int32)) (by decide +kernel) ?_
  refine go_iload_n hC dX5_isNext_5 rfl 1 rfl ?_
  refine go_imul hC dX5_isNext_6 ?_
  refine go_iload_n hC dX5_isNext_7 rfl 2 rfl ?_
  refine go_iadd hC dX5_isNext_8 ?_
  obtain ⟨h4, h⟩ := os_1 h
  refine go_zald hC h4.1 h4.2 dX5_isNext_9 ?_
  refine go_if_eq (t := 43) hC dX5_isNext_10 (by decide) (fun c5 => ?_) (fun c5 => ?_)
  · have h := os_t h c5
    exact tX5_isNext_43 hE _ _ _ _ h
  · have h := os_f h c5
    refine go_aload_n hC dX5_isNext_13 rfl 0 rfl ?_
    obtain ⟨h6, h⟩ := os_1 h
    obtain ⟨b7, h8, h⟩ := os_b h
    refine go_getR 8 hC h6 rfl rfl h8 (C := RX5) (T := TX5) (N := 28) rfl inlX5 (by decide) m_82 (Or.inl rfl) dX5_isNext_14 ?_
    refine go_iload_n hC dX5_isNext_17 rfl 1 rfl ?_
    obtain ⟨h9, h⟩ := os_1 h
    refine go_iald hC h9.1 h9.2 dX5_isNext_18 ?_
    refine go_aload_n hC dX5_isNext_19 rfl 0 rfl ?_
    obtain ⟨h10, h⟩ := os_1 h
    obtain ⟨b11, h12, h⟩ := os_b h
    refine go_getR 1 hC h10 rfl rfl h12 (C := RX5) (T := TX5) (N := 28) rfl inlX5 (by decide) m_76 (Or.inl rfl) dX5_isNext_20 ?_
    refine go_iconst hC dX5_isNext_23 (v := (5 : Int32)) (by decide +kernel) ?_
    refine go_iload_n hC dX5_isNext_24 rfl 2 rfl ?_
    refine go_imul hC dX5_isNext_25 ?_
    refine go_aload_n hC dX5_isNext_26 rfl 0 rfl ?_
    obtain ⟨h13, h⟩ := os_1 h
    obtain ⟨b14, h15, h⟩ := os_b h
    refine go_getR 6 hC h13 rfl rfl h15 (C := RX5) (T := TX5) (N := 28) rfl inlX5 (by decide) m_80 (Or.inl rfl) dX5_isNext_27 ?_
    refine go_iload_n hC dX5_isNext_30 rfl 1 rfl ?_
    obtain ⟨h16, h⟩ := os_1 h
    refine go_iald hC h16.1 h16.2 dX5_isNext_31 ?_
    refine go_iadd hC dX5_isNext_32 ?_
    obtain ⟨h17, h⟩ := os_1 h
    refine go_iald hC h17.1 h17.2 dX5_isNext_33 ?_
    refine go_iconst hC dX5_isNext_34 (v := (1 : Int32)) (by decide +kernel) ?_
    refine go_iadd hC dX5_isNext_35 ?_
    refine go_icmp_ne (t := 43) hC dX5_isNext_36 (by decide) (fun c18 => ?_) (fun c18 => ?_)
    · have h := os_f h c18
      exact tX5_isNext_43 hE _ _ _ _ h
    · have h := os_t h c18
      refine go_iconst hC dX5_isNext_39 (v := (1 : Int32)) (by decide +kernel) ?_
      refine go_goto (t := 44) hC dX5_isNext_40 (by decide) ?_
      exact tX5_isNext_44 hE _ _ _ _ _ h
theorem c_X5_isNext (l : Launch) {x9 : Cx} {k9 : Nat} {M M9 : Mm} {r9 : Int32} {v0 : Nat} {v1 : Int32} {v2 : Int32} (h : fX5_isNext x9 k9 v0 v1 v2 M = some (r9, M9)) : Fn l x9 yX5_isNext cX5_isNext 5 (some .boolean) 0 0 [.ref v0, .int v1, .int v2] M (some (.int r9)) M9 :=
  Fn.of (by decide +kernel) (Nat.le_of_ble_eq_true rfl) rfl (fun K _ hE => tX5_isNext_0 hE _ _ _ _ h)
/-! X5_settles -/
def fX5_settles_37 (x9 : Cx) (k9 : Nat) (rec4 : Nat → Int32 → Int32 → Int32 → Mm → Option (Int32 × Mm)) (rec19 : Nat → Int32 → Int32 → Int32 → Int32 → Mm → Option (Int32 × Mm)) (v0 : Nat) (v1 : Int32) (v2 : Int32) (v3 : Int32) (v4 : Int32) (M : Mm) : Option (Int32 × Mm) :=
  rec19 v0 v1 v2 v3 (v4 + (-1)) M
set_option maxRecDepth 100000 in
set_option maxHeartbeats 4000000 in
theorem tX5_settles_37 {x9 : Cx} {K : Ct} {k9 : Nat} {M0 M9 : Mm} {r9 : Int32} (hE : Ce x9 K RX5 cX5_settles 5 (some .int) 2 45 "settles" M0) {rec4 : Nat → Int32 → Int32 → Int32 → Mm → Option (Int32 × Mm)} {rec19 : Nat → Int32 → Int32 → Int32 → Int32 → Mm → Option (Int32 × Mm)} (hrec4 : ∀ (v0 : Nat) (v1 : Int32) (v2 : Int32) (v3 : Int32) (M : Mm), rec4 v0 v1 v2 v3 M = some (r9, M9) → Go x9 K 5 (Qf x9 K M0 (some (.int r9)) M9) 4 [(0, .ref v0), (1, .int v1), (2, .int v2), (3, .int v3)] [] M) (hrec19 : ∀ (v0 : Nat) (v1 : Int32) (v2 : Int32) (v3 : Int32) (v4 : Int32) (M : Mm), rec19 v0 v1 v2 v3 v4 M = some (r9, M9) → Go x9 K 5 (Qf x9 K M0 (some (.int r9)) M9) 19 [(0, .ref v0), (1, .int v1), (2, .int v2), (3, .int v3), (4, .int v4)] [] M) (v0 : Nat) (v1 : Int32) (v2 : Int32) (v3 : Int32) (v4 : Int32) (M : Mm) (h : fX5_settles_37 x9 k9 rec4 rec19 v0 v1 v2 v3 v4 M = some (r9, M9)) : Go x9 K 5 (Qf x9 K M0 (some (.int r9)) M9) 37 [(0, .ref v0), (1, .int v1), (2, .int v2), (3, .int v3), (4, .int v4)] [] M := by
  have hC := hE.1
  have hnm := hE.2.2.2.2.2.2.2.1
  unfold fX5_settles_37 at h
  refine go_iinc (q := 4) (v := (v4 + (-1))) (lv' := [(4, .int (v4 + (-1))), (0, .ref v0), (1, .int v1), (2, .int v2), (3, .int v3)]) hC dX5_settles_37 rfl rfl (by decide) rfl ?_
  refine go_goto (t := 19) hC dX5_settles_40 (by decide) ?_
  refine go_sub (lv' := [(0, .ref v0), (1, .int v1), (2, .int v2), (3, .int v3), (4, .int (v4 + (-1)))]) [1, 2, 3, 4, 0] rfl ?_
  exact hrec19 _ _ _ _ _ _ h
def fX5_settles_19 (x9 : Cx) (k9 : Nat) (rec4 : Nat → Int32 → Int32 → Int32 → Mm → Option (Int32 × Mm)) : Nat → Nat → Int32 → Int32 → Int32 → Int32 → Mm → Option (Int32 × Mm)
  | 0, _, _, _, _, _, _ => none
  | n9 + 1, v0, v1, v2, v3, v4, M => if v4 < 0 then if v3 = (-1 : Int32) then rec4 v0 v1 v2 v3 M else if mK M v0 = 6 then ob2 (fX5_applies x9 k9 v0 v3 v1 M) (fun r3 M4 => rec4 v0 v1 (v2 + 1) v3 M4) else none else if mK M v0 = 6 then ob2 (fX5_isNext x9 k9 v0 v4 v1 M) (fun r7 M8 => if r7 = 0 then fX5_settles_37 x9 k9 rec4 (fX5_settles_19 x9 k9 rec4 n9) v0 v1 v2 v3 v4 M8 else fX5_settles_37 x9 k9 rec4 (fX5_settles_19 x9 k9 rec4 n9) v0 v1 v2 v4 v4 M8) else none
set_option maxRecDepth 100000 in
set_option maxHeartbeats 4000000 in
theorem tX5_settles_19 {x9 : Cx} {K : Ct} {k9 : Nat} {M0 M9 : Mm} {r9 : Int32} (hE : Ce x9 K RX5 cX5_settles 5 (some .int) 2 45 "settles" M0) {rec4 : Nat → Int32 → Int32 → Int32 → Mm → Option (Int32 × Mm)} (hrec4 : ∀ (v0 : Nat) (v1 : Int32) (v2 : Int32) (v3 : Int32) (M : Mm), rec4 v0 v1 v2 v3 M = some (r9, M9) → Go x9 K 5 (Qf x9 K M0 (some (.int r9)) M9) 4 [(0, .ref v0), (1, .int v1), (2, .int v2), (3, .int v3)] [] M) : ∀ (n9 : Nat) (v0 : Nat) (v1 : Int32) (v2 : Int32) (v3 : Int32) (v4 : Int32) (M : Mm), fX5_settles_19 x9 k9 rec4 n9 v0 v1 v2 v3 v4 M = some (r9, M9) → Go x9 K 5 (Qf x9 K M0 (some (.int r9)) M9) 19 [(0, .ref v0), (1, .int v1), (2, .int v2), (3, .int v3), (4, .int v4)] [] M := by
  have hC := hE.1
  have hnm := hE.2.2.2.2.2.2.2.1
  intro n9
  induction n9 with
  | zero => intro _ _ _ _ _ _ h; cases h
  | succ n9 ih =>
    intro v0 v1 v2 v3 v4 M h
    rw [fX5_settles_19] at h
    refine go_iload hC dX5_settles_19 4 rfl ?_
    refine go_if_lt (t := 43) hC dX5_settles_21 (by decide) (fun c1 => ?_) (fun c1 => ?_)
    · have h := os_t h c1
      refine go_iload_n hC dX5_settles_43 rfl 3 rfl ?_
      refine go_iconst hC dX5_settles_44 (v := (-1 : Int32)) (by decide +kernel) ?_
      refine go_icmp_eq (t := 4) hC dX5_settles_45 (by decide) (fun c2 => ?_) (fun c2 => ?_)
      · have h := os_t h c2
        refine go_sub (lv' := [(0, .ref v0), (1, .int v1), (2, .int v2), (3, .int v3)]) [0, 1, 2, 3] rfl ?_
        exact hrec4 _ _ _ _ _ h
      · have h := os_f h c2
        refine go_aload_n hC dX5_settles_48 rfl 0 rfl ?_
        refine go_iload_n hC dX5_settles_49 rfl 3 rfl ?_
        refine go_iload_n hC dX5_settles_50 rfl 1 rfl ?_
        obtain ⟨h6, h⟩ := os_1 h
        obtain ⟨r3, M4, h5, h⟩ := os_c h
        refine go_callV (bytes := cX5_applies) (maxL := 3) (ret := none) (n := 2) (As := [.int v3, .int v1]) (st := []) hE (c_X5_applies K.2.1 h5) (by unfold okY; decide +kernel) rfl h6 rfl (C := RX5) (T := TX5) (N := 28) rfl m_495 m_492 m_493 m_494 m_5 rfl (by simp [Value.category]) (by decide) (by decide) dX5_settles_51 ?_
        refine go_eq (pc' := 54) (st' := []) (M' := M4) (lv' := [(0, .ref v0), (1, .int v1), (2, .int v2), (3, .int v3), (4, .int v4)]) ?_ rfl rfl rfl rfl
        refine go_iinc (q := 2) (v := (v2 + 1)) (lv' := [(2, .int (v2 + 1)), (0, .ref v0), (1, .int v1), (3, .int v3), (4, .int v4)]) hC dX5_settles_54 rfl rfl (by decide) rfl ?_
        refine go_goto (t := 4) hC dX5_settles_57 (by decide) ?_
        refine go_sub (lv' := [(0, .ref v0), (1, .int v1), (2, .int (v2 + 1)), (3, .int v3)]) [1, 2, 0, 3] rfl ?_
        exact hrec4 _ _ _ _ _ h
    · have h := os_f h c1
      refine go_aload_n hC dX5_settles_24 rfl 0 rfl ?_
      refine go_iload hC dX5_settles_25 4 rfl ?_
      refine go_iload_n hC dX5_settles_27 rfl 1 rfl ?_
      obtain ⟨h10, h⟩ := os_1 h
      obtain ⟨r7, M8, h9, h⟩ := os_c h
      refine go_callV (bytes := cX5_isNext) (maxL := 5) (ret := (some .boolean)) (n := 2) (As := [.int v4, .int v1]) (st := []) hE (c_X5_isNext K.2.1 h9) (by unfold okY; decide +kernel) rfl h10 rfl (C := RX5) (T := TX5) (N := 28) rfl m_631 m_628 m_629 m_630 m_5 rfl (by simp [Value.category]) (by decide) (by decide) dX5_settles_28 ?_
      refine go_eq (pc' := 31) (st' := [.int r7]) (M' := M8) (lv' := [(0, .ref v0), (1, .int v1), (2, .int v2), (3, .int v3), (4, .int v4)]) ?_ rfl rfl rfl rfl
      refine go_if_eq (t := 37) hC dX5_settles_31 (by decide) (fun c11 => ?_) (fun c11 => ?_)
      · have h := os_t h c11
        exact tX5_settles_37 hE hrec4 ih _ _ _ _ _ _ h
      · have h := os_f h c11
        refine go_iload hC dX5_settles_34 4 rfl ?_
        refine go_istore_n (lv' := [(3, .int v4), (0, .ref v0), (1, .int v1), (2, .int v2), (4, .int v4)]) hC dX5_settles_36 rfl (by decide) rfl ?_
        refine go_sub (lv' := [(0, .ref v0), (1, .int v1), (2, .int v2), (3, .int v4), (4, .int v4)]) [1, 2, 3, 0, 4] rfl ?_
        exact tX5_settles_37 hE hrec4 ih _ _ _ _ _ _ h
def fX5_settles_4 (x9 : Cx) (k9 : Nat) : Nat → Nat → Int32 → Int32 → Int32 → Mm → Option (Int32 × Mm)
  | 0, _, _, _, _, _ => none
  | n9 + 1, v0, v1, v2, v3, M => if v3 = (-1 : Int32) then some (v2, M) else if mK M v0 = 6 then fX5_settles_19 x9 k9 (fX5_settles_4 x9 k9 n9) k9 v0 v1 v2 (-1 : Int32) ((mV M v0 5) - (1 : Int32)) M else none
set_option maxRecDepth 100000 in
set_option maxHeartbeats 4000000 in
theorem tX5_settles_4 {x9 : Cx} {K : Ct} {k9 : Nat} {M0 M9 : Mm} {r9 : Int32} (hE : Ce x9 K RX5 cX5_settles 5 (some .int) 2 45 "settles" M0) : ∀ (n9 : Nat) (v0 : Nat) (v1 : Int32) (v2 : Int32) (v3 : Int32) (M : Mm), fX5_settles_4 x9 k9 n9 v0 v1 v2 v3 M = some (r9, M9) → Go x9 K 5 (Qf x9 K M0 (some (.int r9)) M9) 4 [(0, .ref v0), (1, .int v1), (2, .int v2), (3, .int v3)] [] M := by
  have hC := hE.1
  have hnm := hE.2.2.2.2.2.2.2.1
  intro n9
  induction n9 with
  | zero => intro _ _ _ _ _ h; cases h
  | succ n9 ih =>
    intro v0 v1 v2 v3 M h
    rw [fX5_settles_4] at h
    refine go_iload_n hC dX5_settles_4 rfl 3 rfl ?_
    refine go_iconst hC dX5_settles_5 (v := (-1 : Int32)) (by decide +kernel) ?_
    refine go_icmp_eq (t := 60) hC dX5_settles_6 (by decide) (fun c1 => ?_) (fun c1 => ?_)
    · have h := os_t h c1
      refine go_iload_n hC dX5_settles_60 rfl 2 rfl ?_
      cases h
      exact go_iret hE dX5_settles_61
    · have h := os_f h c1
      refine go_iconst hC dX5_settles_9 (v := (-1 : Int32)) (by decide +kernel) ?_
      refine go_istore_n (lv' := [(3, .int (-1 : Int32)), (0, .ref v0), (1, .int v1), (2, .int v2)]) hC dX5_settles_10 rfl (by decide) rfl ?_
      refine go_aload_n hC dX5_settles_11 rfl 1 rfl ?_
      obtain ⟨h2, h⟩ := os_1 h
      refine go_getV 5 hC h2 rfl rfl (C := RX5) (T := TX5) (N := 28) rfl inlX5 (by decide) m_103 (Or.inl rfl) dX5_settles_12 ?_
      refine go_iconst hC dX5_settles_15 (v := (1 : Int32)) (by decide +kernel) ?_
      refine go_isub hC dX5_settles_16 ?_
      refine go_istore (lv' := [(4, .int ((mV M v0 5) - (1 : Int32))), (3, .int (-1 : Int32)), (0, .ref v0), (1, .int v1), (2, .int v2)]) hC dX5_settles_17 (by decide) rfl ?_
      refine go_sub (lv' := [(0, .ref v0), (1, .int v1), (2, .int v2), (3, .int (-1 : Int32)), (4, .int ((mV M v0 5) - (1 : Int32)))]) [2, 3, 4, 1, 0] rfl ?_
      exact tX5_settles_19 hE ih k9 _ _ _ _ _ _ h
def fX5_settles (x9 : Cx) (k9 : Nat) (v0 : Nat) (v1 : Int32) (M : Mm) : Option (Int32 × Mm) :=
  fX5_settles_4 x9 k9 k9 v0 v1 (0 : Int32) (0 : Int32) M
set_option maxRecDepth 100000 in
set_option maxHeartbeats 4000000 in
theorem tX5_settles_0 {x9 : Cx} {K : Ct} {k9 : Nat} {M0 M9 : Mm} {r9 : Int32} (hE : Ce x9 K RX5 cX5_settles 5 (some .int) 2 45 "settles" M0) (v0 : Nat) (v1 : Int32) (M : Mm) (h : fX5_settles x9 k9 v0 v1 M = some (r9, M9)) : Go x9 K 5 (Qf x9 K M0 (some (.int r9)) M9) 0 [(0, .ref v0), (1, .int v1)] [] M := by
  have hC := hE.1
  have hnm := hE.2.2.2.2.2.2.2.1
  unfold fX5_settles at h
  refine go_iconst hC dX5_settles_0 (v := (0 : Int32)) (by decide +kernel) ?_
  refine go_istore_n (lv' := [(2, .int (0 : Int32)), (0, .ref v0), (1, .int v1)]) hC dX5_settles_1 rfl (by decide) rfl ?_
  refine go_iconst hC dX5_settles_2 (v := (0 : Int32)) (by decide +kernel) ?_
  refine go_istore_n (lv' := [(3, .int (0 : Int32)), (2, .int (0 : Int32)), (0, .ref v0), (1, .int v1)]) hC dX5_settles_3 rfl (by decide) rfl ?_
  refine go_sub (lv' := [(0, .ref v0), (1, .int v1), (2, .int (0 : Int32)), (3, .int (0 : Int32))]) [2, 3, 1, 0] rfl ?_
  exact tX5_settles_4 hE k9 _ _ _ _ _ h
theorem c_X5_settles (l : Launch) {x9 : Cx} {k9 : Nat} {M M9 : Mm} {r9 : Int32} {v0 : Nat} {v1 : Int32} (h : fX5_settles x9 k9 v0 v1 M = some (r9, M9)) : Fn l x9 yX5_settles cX5_settles 5 (some .int) 2 45 [.ref v0, .int v1] M (some (.int r9)) M9 :=
  Fn.of (by decide +kernel) (Nat.le_of_ble_eq_true rfl) rfl (fun K _ hE => tX5_settles_0 hE _ _ _ h)
/-! X5_allSaid -/
def fX5_allSaid_40 (x9 : Cx) (k9 : Nat) (rec4 : Nat → Int32 → Int32 → Int32 → Mm → Option (Int32 × Mm)) (v0 : Nat) (v1 : Int32) (v2 : Int32) (v3 : Int32) (M : Mm) : Option (Int32 × Mm) :=
  rec4 v0 v1 v2 (v3 + 1) M
set_option maxRecDepth 100000 in
set_option maxHeartbeats 4000000 in
theorem tX5_allSaid_40 {x9 : Cx} {K : Ct} {k9 : Nat} {M0 M9 : Mm} {r9 : Int32} (hE : Ce x9 K RX5 cX5_allSaid 4 (some .boolean) 0 0 "allSaid" M0) {rec4 : Nat → Int32 → Int32 → Int32 → Mm → Option (Int32 × Mm)} (hrec4 : ∀ (v0 : Nat) (v1 : Int32) (v2 : Int32) (v3 : Int32) (M : Mm), rec4 v0 v1 v2 v3 M = some (r9, M9) → Go x9 K 4 (Qf x9 K M0 (some (.int r9)) M9) 4 [(0, .ref v0), (1, .int v1), (2, .int v2), (3, .int v3)] [] M) (v0 : Nat) (v1 : Int32) (v2 : Int32) (v3 : Int32) (M : Mm) (h : fX5_allSaid_40 x9 k9 rec4 v0 v1 v2 v3 M = some (r9, M9)) : Go x9 K 4 (Qf x9 K M0 (some (.int r9)) M9) 40 [(0, .ref v0), (1, .int v1), (2, .int v2), (3, .int v3)] [] M := by
  have hC := hE.1
  have hnm := hE.2.2.2.2.2.2.2.1
  unfold fX5_allSaid_40 at h
  refine go_iinc (q := 3) (v := (v3 + 1)) (lv' := [(3, .int (v3 + 1)), (0, .ref v0), (1, .int v1), (2, .int v2)]) hC dX5_allSaid_40 rfl rfl (by decide) rfl ?_
  refine go_goto (t := 4) hC dX5_allSaid_43 (by decide) ?_
  refine go_sub (lv' := [(0, .ref v0), (1, .int v1), (2, .int v2), (3, .int (v3 + 1))]) [1, 2, 3, 0] rfl ?_
  exact hrec4 _ _ _ _ _ h
def fX5_allSaid_4 (x9 : Cx) (k9 : Nat) : Nat → Nat → Int32 → Int32 → Int32 → Mm → Option (Int32 × Mm)
  | 0, _, _, _, _, _ => none
  | n9 + 1, v0, v1, v2, v3, M => if mK M v0 = 6 then if (mV M v0 0) ≤ v3 then if v2 = 0 ∨ v2 = 1 then some (v2, M) else none else if mK M v0 = 6 then ob1 (mP M v0 13) (fun b5 => if mK M b5 = 9 ∧ ¬ ((((5 : Int32) * v1) + v3) < 0 ∨ mN M b5 ≤ ((((5 : Int32) * v1) + v3)).toNatClampNeg) then if (mV M b5 ((((5 : Int32) * v1) + v3)).toNatClampNeg) = 0 then fX5_allSaid_40 x9 k9 (fX5_allSaid_4 x9 k9 n9) v0 v1 v2 v3 M else if mK M v0 = 6 then ob1 (mP M v0 14) (fun b10 => if mK M b10 = 9 ∧ ¬ ((((5 : Int32) * v1) + v3) < 0 ∨ mN M b10 ≤ ((((5 : Int32) * v1) + v3)).toNatClampNeg) then if (mV M b10 ((((5 : Int32) * v1) + v3)).toNatClampNeg) = 0 then fX5_allSaid_40 x9 k9 (fX5_allSaid_4 x9 k9 n9) v0 v1 (0 : Int32) v3 M else fX5_allSaid_40 x9 k9 (fX5_allSaid_4 x9 k9 n9) v0 v1 v2 v3 M else none) else none else none) else none else none
set_option maxRecDepth 100000 in
set_option maxHeartbeats 4000000 in
theorem tX5_allSaid_4 {x9 : Cx} {K : Ct} {k9 : Nat} {M0 M9 : Mm} {r9 : Int32} (hE : Ce x9 K RX5 cX5_allSaid 4 (some .boolean) 0 0 "allSaid" M0) : ∀ (n9 : Nat) (v0 : Nat) (v1 : Int32) (v2 : Int32) (v3 : Int32) (M : Mm), fX5_allSaid_4 x9 k9 n9 v0 v1 v2 v3 M = some (r9, M9) → Go x9 K 4 (Qf x9 K M0 (some (.int r9)) M9) 4 [(0, .ref v0), (1, .int v1), (2, .int v2), (3, .int v3)] [] M := by
  have hC := hE.1
  have hnm := hE.2.2.2.2.2.2.2.1
  intro n9
  induction n9 with
  | zero => intro _ _ _ _ _ h; cases h
  | succ n9 ih =>
    intro v0 v1 v2 v3 M h
    rw [fX5_allSaid_4] at h
    refine go_iload_n hC dX5_allSaid_4 rfl 3 rfl ?_
    refine go_aload_n hC dX5_allSaid_5 rfl 0 rfl ?_
    obtain ⟨h1, h⟩ := os_1 h
    refine go_getV 0 hC h1 rfl rfl (C := RX5) (T := TX5) (N := 28) rfl inlX5 (by decide) m_75 (Or.inl rfl) dX5_allSaid_6 ?_
    refine go_icmp_ge (t := 46) hC dX5_allSaid_9 (by decide) (fun c2 => ?_) (fun c2 => ?_)
    · have h := os_t h c2
      refine go_iload_n hC dX5_allSaid_46 rfl 2 rfl ?_
      obtain ⟨h3, h⟩ := os_1 h
      cases h
      exact go_zret hE h3 dX5_allSaid_47
    · have h := os_f h c2
      refine go_aload_n hC dX5_allSaid_12 rfl 0 rfl ?_
      obtain ⟨h4, h⟩ := os_1 h
      obtain ⟨b5, h6, h⟩ := os_b h
      refine go_getR 13 hC h4 rfl rfl h6 (C := RX5) (T := TX5) (N := 28) rfl inlX5 (by decide) m_87 (Or.inl rfl) dX5_allSaid_13 ?_
      refine go_iconst hC dX5_allSaid_16 (v := (5 : Int32)) (by decide +kernel) ?_
      refine go_iload_n hC dX5_allSaid_17 rfl 1 rfl ?_
      refine go_imul hC dX5_allSaid_18 ?_
      refine go_iload_n hC dX5_allSaid_19 rfl 3 rfl ?_
      refine go_iadd hC dX5_allSaid_20 ?_
      obtain ⟨h7, h⟩ := os_1 h
      refine go_zald hC h7.1 h7.2 dX5_allSaid_21 ?_
      refine go_if_eq (t := 40) hC dX5_allSaid_22 (by decide) (fun c8 => ?_) (fun c8 => ?_)
      · have h := os_t h c8
        exact tX5_allSaid_40 hE ih _ _ _ _ _ h
      · have h := os_f h c8
        refine go_aload_n hC dX5_allSaid_25 rfl 0 rfl ?_
        obtain ⟨h9, h⟩ := os_1 h
        obtain ⟨b10, h11, h⟩ := os_b h
        refine go_getR 14 hC h9 rfl rfl h11 (C := RX5) (T := TX5) (N := 28) rfl inlX5 (by decide) m_88 (Or.inl rfl) dX5_allSaid_26 ?_
        refine go_iconst hC dX5_allSaid_29 (v := (5 : Int32)) (by decide +kernel) ?_
        refine go_iload_n hC dX5_allSaid_30 rfl 1 rfl ?_
        refine go_imul hC dX5_allSaid_31 ?_
        refine go_iload_n hC dX5_allSaid_32 rfl 3 rfl ?_
        refine go_iadd hC dX5_allSaid_33 ?_
        obtain ⟨h12, h⟩ := os_1 h
        refine go_zald hC h12.1 h12.2 dX5_allSaid_34 ?_
        refine go_if_ne (t := 40) hC dX5_allSaid_35 (by decide) (fun c13 => ?_) (fun c13 => ?_)
        · have h := os_f h c13
          exact tX5_allSaid_40 hE ih _ _ _ _ _ h
        · have h := os_t h c13
          refine go_iconst hC dX5_allSaid_38 (v := (0 : Int32)) (by decide +kernel) ?_
          refine go_istore_n (lv' := [(2, .int (0 : Int32)), (0, .ref v0), (1, .int v1), (3, .int v3)]) hC dX5_allSaid_39 rfl (by decide) rfl ?_
          refine go_sub (lv' := [(0, .ref v0), (1, .int v1), (2, .int (0 : Int32)), (3, .int v3)]) [1, 2, 0, 3] rfl ?_
          exact tX5_allSaid_40 hE ih _ _ _ _ _ h
def fX5_allSaid (x9 : Cx) (k9 : Nat) (v0 : Nat) (v1 : Int32) (M : Mm) : Option (Int32 × Mm) :=
  fX5_allSaid_4 x9 k9 k9 v0 v1 (1 : Int32) (0 : Int32) M
set_option maxRecDepth 100000 in
set_option maxHeartbeats 4000000 in
theorem tX5_allSaid_0 {x9 : Cx} {K : Ct} {k9 : Nat} {M0 M9 : Mm} {r9 : Int32} (hE : Ce x9 K RX5 cX5_allSaid 4 (some .boolean) 0 0 "allSaid" M0) (v0 : Nat) (v1 : Int32) (M : Mm) (h : fX5_allSaid x9 k9 v0 v1 M = some (r9, M9)) : Go x9 K 4 (Qf x9 K M0 (some (.int r9)) M9) 0 [(0, .ref v0), (1, .int v1)] [] M := by
  have hC := hE.1
  have hnm := hE.2.2.2.2.2.2.2.1
  unfold fX5_allSaid at h
  refine go_iconst hC dX5_allSaid_0 (v := (1 : Int32)) (by decide +kernel) ?_
  refine go_istore_n (lv' := [(2, .int (1 : Int32)), (0, .ref v0), (1, .int v1)]) hC dX5_allSaid_1 rfl (by decide) rfl ?_
  refine go_iconst hC dX5_allSaid_2 (v := (0 : Int32)) (by decide +kernel) ?_
  refine go_istore_n (lv' := [(3, .int (0 : Int32)), (2, .int (1 : Int32)), (0, .ref v0), (1, .int v1)]) hC dX5_allSaid_3 rfl (by decide) rfl ?_
  refine go_sub (lv' := [(0, .ref v0), (1, .int v1), (2, .int (1 : Int32)), (3, .int (0 : Int32))]) [2, 3, 1, 0] rfl ?_
  exact tX5_allSaid_4 hE k9 _ _ _ _ _ h
theorem c_X5_allSaid (l : Launch) {x9 : Cx} {k9 : Nat} {M M9 : Mm} {r9 : Int32} {v0 : Nat} {v1 : Int32} (h : fX5_allSaid x9 k9 v0 v1 M = some (r9, M9)) : Fn l x9 yX5_allSaid cX5_allSaid 4 (some .boolean) 0 0 [.ref v0, .int v1] M (some (.int r9)) M9 :=
  Fn.of (by decide +kernel) (Nat.le_of_ble_eq_true rfl) rfl (fun K _ hE => tX5_allSaid_0 hE _ _ _ h)
/-! X5_takesOut -/
def fX5_takesOut_4 (x9 : Cx) (k9 : Nat) : Nat → Nat → Int32 → Mm → Option (Unit × Mm)
  | 0, _, _, _ => none
  | n9 + 1, v0, v2, M => if mK M v0 = 6 then if ((4 : Int32) * (mV M v0 23)) ≤ (v2 + (4 : Int32)) then if mK M v0 = 6 then if mK M v0 = 6 then some ((), (sV M v0 23 ((mV M v0 23) - (1 : Int32)))) else none else none else if mK M v0 = 6 then ob1 (mP M v0 22) (fun b6 => if mK M v0 = 6 then ob1 (mP M v0 22) (fun b9 => if mK M b9 = 8 ∧ ¬ ((v2 + (4 : Int32)) < 0 ∨ mN M b9 ≤ ((v2 + (4 : Int32))).toNatClampNeg) then if mK M b6 = 8 ∧ ¬ (v2 < 0 ∨ mN M b6 ≤ (v2).toNatClampNeg) then lt1 (sV M b6 (v2).toNatClampNeg (mV M b9 ((v2 + (4 : Int32))).toNatClampNeg)) (fun M13 => fX5_takesOut_4 x9 k9 n9 v0 (v2 + 1) M13) else none else none) else none) else none else none
set_option maxRecDepth 100000 in
set_option maxHeartbeats 4000000 in
theorem tX5_takesOut_4 {x9 : Cx} {K : Ct} {k9 : Nat} {M0 M9 : Mm} {r9 : Unit} (hE : Ce x9 K RX5 cX5_takesOut 3 none 0 0 "takesOut" M0) : ∀ (n9 : Nat) (v0 : Nat) (v2 : Int32) (M : Mm), fX5_takesOut_4 x9 k9 n9 v0 v2 M = some (r9, M9) → Go x9 K 3 (Qf x9 K M0 none M9) 4 [(0, .ref v0), (2, .int v2)] [] M := by
  have hC := hE.1
  have hnm := hE.2.2.2.2.2.2.2.1
  intro n9
  induction n9 with
  | zero => intro _ _ _ h; cases h
  | succ n9 ih =>
    intro v0 v2 M h
    rw [fX5_takesOut_4] at h
    refine go_iload_n hC dX5_takesOut_4 rfl 1 rfl ?_
    refine go_iconst hC dX5_takesOut_5 (v := (4 : Int32)) (by decide +kernel) ?_
    refine go_iadd hC dX5_takesOut_6 ?_
    refine go_iconst hC dX5_takesOut_7 (v := (4 : Int32)) (by decide +kernel) ?_
    refine go_aload_n hC dX5_takesOut_8 rfl 0 rfl ?_
    obtain ⟨h1, h⟩ := os_1 h
    refine go_getV 23 hC h1 rfl rfl (C := RX5) (T := TX5) (N := 28) rfl inlX5 (by decide) m_104 (Or.inl rfl) dX5_takesOut_9 ?_
    refine go_imul hC dX5_takesOut_12 ?_
    refine go_icmp_ge (t := 36) hC dX5_takesOut_13 (by decide) (fun c2 => ?_) (fun c2 => ?_)
    · have h := os_t h c2
      refine go_aload_n hC dX5_takesOut_36 rfl 0 rfl ?_
      refine go_dup hC dX5_takesOut_37 rfl ?_
      obtain ⟨h3, h⟩ := os_1 h
      refine go_getV 23 hC h3 rfl rfl (C := RX5) (T := TX5) (N := 28) rfl inlX5 (by decide) m_104 (Or.inl rfl) dX5_takesOut_38 ?_
      refine go_iconst hC dX5_takesOut_41 (v := (1 : Int32)) (by decide +kernel) ?_
      refine go_isub hC dX5_takesOut_42 ?_
      obtain ⟨h4, h⟩ := os_1 h
      refine go_putV 23 hC h4 rfl rfl (C := RX5) (T := TX5) (N := 28) rfl inlX5 tyX5 tyX5_ok nmX5 (by decide) m_104 (Or.inl rfl) (Or.inl rfl) (tyX5_ok 23 (by decide)) rfl rfl dX5_takesOut_43 ?_
      cases h
      exact go_vret hE dX5_takesOut_46
    · have h := os_f h c2
      refine go_aload_n hC dX5_takesOut_16 rfl 0 rfl ?_
      obtain ⟨h5, h⟩ := os_1 h
      obtain ⟨b6, h7, h⟩ := os_b h
      refine go_getR 22 hC h5 rfl rfl h7 (C := RX5) (T := TX5) (N := 28) rfl inlX5 (by decide) m_96 (Or.inl rfl) dX5_takesOut_17 ?_
      refine go_iload_n hC dX5_takesOut_20 rfl 1 rfl ?_
      refine go_aload_n hC dX5_takesOut_21 rfl 0 rfl ?_
      obtain ⟨h8, h⟩ := os_1 h
      obtain ⟨b9, h10, h⟩ := os_b h
      refine go_getR 22 hC h8 rfl rfl h10 (C := RX5) (T := TX5) (N := 28) rfl inlX5 (by decide) m_96 (Or.inl rfl) dX5_takesOut_22 ?_
      refine go_iload_n hC dX5_takesOut_25 rfl 1 rfl ?_
      refine go_iconst hC dX5_takesOut_26 (v := (4 : Int32)) (by decide +kernel) ?_
      refine go_iadd hC dX5_takesOut_27 ?_
      obtain ⟨h11, h⟩ := os_1 h
      refine go_iald hC h11.1 h11.2 dX5_takesOut_28 ?_
      obtain ⟨h12, h⟩ := os_1 h
      refine go_iast hC h12.1 h12.2 dX5_takesOut_29 ?_
      obtain ⟨M13, e14, h⟩ := os_l h
      refine go_eq (pc' := 30) (st' := []) (M' := M13) (lv' := [(0, .ref v0), (2, .int v2)]) ?_ rfl rfl rfl e14
      refine go_iinc (q := 1) (v := (v2 + 1)) (lv' := [(2, .int (v2 + 1)), (0, .ref v0)]) hC dX5_takesOut_30 rfl rfl (by decide) rfl ?_
      refine go_goto (t := 4) hC dX5_takesOut_33 (by decide) ?_
      refine go_sub (lv' := [(0, .ref v0), (2, .int (v2 + 1))]) [1, 0] rfl ?_
      exact ih _ _ _ h
def fX5_takesOut (x9 : Cx) (k9 : Nat) (v0 : Nat) (v1 : Int32) (M : Mm) : Option (Unit × Mm) :=
  fX5_takesOut_4 x9 k9 k9 v0 ((4 : Int32) * v1) M
set_option maxRecDepth 100000 in
set_option maxHeartbeats 4000000 in
theorem tX5_takesOut_0 {x9 : Cx} {K : Ct} {k9 : Nat} {M0 M9 : Mm} {r9 : Unit} (hE : Ce x9 K RX5 cX5_takesOut 3 none 0 0 "takesOut" M0) (v0 : Nat) (v1 : Int32) (M : Mm) (h : fX5_takesOut x9 k9 v0 v1 M = some (r9, M9)) : Go x9 K 3 (Qf x9 K M0 none M9) 0 [(0, .ref v0), (1, .int v1)] [] M := by
  have hC := hE.1
  have hnm := hE.2.2.2.2.2.2.2.1
  unfold fX5_takesOut at h
  refine go_iconst hC dX5_takesOut_0 (v := (4 : Int32)) (by decide +kernel) ?_
  refine go_iload_n hC dX5_takesOut_1 rfl 1 rfl ?_
  refine go_imul hC dX5_takesOut_2 ?_
  refine go_istore_n (lv' := [(2, .int ((4 : Int32) * v1)), (0, .ref v0), (1, .int v1)]) hC dX5_takesOut_3 rfl (by decide) rfl ?_
  refine go_sub (lv' := [(0, .ref v0), (2, .int ((4 : Int32) * v1))]) [1, 0] rfl ?_
  exact tX5_takesOut_4 hE k9 _ _ _ h
theorem c_X5_takesOut (l : Launch) {x9 : Cx} {k9 : Nat} {M M9 : Mm} {r9 : Unit} {v0 : Nat} {v1 : Int32} (h : fX5_takesOut x9 k9 v0 v1 M = some (r9, M9)) : Fn l x9 yX5_takesOut cX5_takesOut 3 none 0 0 [.ref v0, .int v1] M none M9 :=
  Fn.of (by decide +kernel) (Nat.le_of_ble_eq_true rfl) rfl (fun K _ hE => tX5_takesOut_0 hE _ _ _ h)
/-! X5_deliver -/
def fX5_deliver_179 (x9 : Cx) (k9 : Nat) (v0 : Nat) (v2 : Int32) (v3 : Int32) (v4 : Int32) (v5 : Int32) (M : Mm) : Option (Int32 × Mm) :=
  if mK M v0 = 6 then ob1 (mP M v0 7) (fun b2 => if mK M b2 = 8 ∧ ¬ (v5 < 0 ∨ mN M b2 ≤ (v5).toNatClampNeg) then if (mV M b2 (v5).toNatClampNeg) = (1 : Int32) then if v2 = (3 : Int32) then if mK M v0 = 6 then ob1 (mP M v0 7) (fun b27 => if mK M b27 = 8 ∧ ¬ (v5 < 0 ∨ mN M b27 ≤ (v5).toNatClampNeg) then if mK (sV M b27 (v5).toNatClampNeg (3 : Int32)) v0 = 6 then ob2 (fX5_frees x9 k9 v0 v5 (sV M b27 (v5).toNatClampNeg (3 : Int32))) (fun r30 M31 => some ((0 : Int32), M31)) else none else none) else none else if mK M v0 = 6 then ob1 (mP M v0 14) (fun b8 => if mK M b8 = 9 ∧ ¬ ((((5 : Int32) * v5) + v3) < 0 ∨ mN M b8 ≤ ((((5 : Int32) * v5) + v3)).toNatClampNeg) then lt1 (sV M b8 ((((5 : Int32) * v5) + v3)).toNatClampNeg (vp_nar .boolean (1 : Int32))) (fun M11 => if mK M11 v0 = 6 then ob2 (fX5_allSaid x9 k9 v0 v5 M11) (fun r13 M14 => if r13 = 0 then some ((0 : Int32), M14) else if mK M14 v0 = 6 then ob2 (fX5_commits x9 k9 v0 v5 M14) (fun r18 M19 => if mK M19 v0 = 6 then ob2 (fX5_settles x9 k9 v0 v4 M19) (fun r22 M23 => some (((1 : Int32) + r22), M23)) else none) else none) else none) else none) else none else some ((0 : Int32), M) else none) else none
set_option maxRecDepth 100000 in
set_option maxHeartbeats 4000000 in
theorem tX5_deliver_179 {x9 : Cx} {K : Ct} {k9 : Nat} {M0 M9 : Mm} {r9 : Int32} (hE : Ce x9 K RX5 cX5_deliver 6 (some .int) 3 72 "deliver" M0) (v0 : Nat) (v2 : Int32) (v3 : Int32) (v4 : Int32) (v5 : Int32) (M : Mm) (h : fX5_deliver_179 x9 k9 v0 v2 v3 v4 v5 M = some (r9, M9)) : Go x9 K 6 (Qf x9 K M0 (some (.int r9)) M9) 179 [(0, .ref v0), (2, .int v2), (3, .int v3), (4, .int v4), (5, .int v5)] [] M := by
  have hC := hE.1
  have hnm := hE.2.2.2.2.2.2.2.1
  unfold fX5_deliver_179 at h
  refine go_aload_n hC dX5_deliver_179 rfl 0 rfl ?_
  obtain ⟨h1, h⟩ := os_1 h
  obtain ⟨b2, h3, h⟩ := os_b h
  refine go_getR 7 hC h1 rfl rfl h3 (C := RX5) (T := TX5) (N := 28) rfl inlX5 (by decide) m_81 (Or.inl rfl) dX5_deliver_180 ?_
  refine go_iload hC dX5_deliver_183 4 rfl ?_
  obtain ⟨h4, h⟩ := os_1 h
  refine go_iald hC h4.1 h4.2 dX5_deliver_185 ?_
  refine go_iconst hC dX5_deliver_186 (v := (1 : Int32)) (by decide +kernel) ?_
  refine go_icmp_eq (t := 192) hC dX5_deliver_187 (by decide) (fun c5 => ?_) (fun c5 => ?_)
  · have h := os_t h c5
    refine go_iload_n hC dX5_deliver_192 rfl 1 rfl ?_
    refine go_iconst hC dX5_deliver_193 (v := (3 : Int32)) (by decide +kernel) ?_
    refine go_icmp_ne (t := 213) hC dX5_deliver_194 (by decide) (fun c6 => ?_) (fun c6 => ?_)
    · have h := os_f h c6
      refine go_aload_n hC dX5_deliver_213 rfl 0 rfl ?_
      obtain ⟨h7, h⟩ := os_1 h
      obtain ⟨b8, h9, h⟩ := os_b h
      refine go_getR 14 hC h7 rfl rfl h9 (C := RX5) (T := TX5) (N := 28) rfl inlX5 (by decide) m_88 (Or.inl rfl) dX5_deliver_214 ?_
      refine go_iconst hC dX5_deliver_217 (v := (5 : Int32)) (by decide +kernel) ?_
      refine go_iload hC dX5_deliver_218 4 rfl ?_
      refine go_imul hC dX5_deliver_220 ?_
      refine go_iload_n hC dX5_deliver_221 rfl 2 rfl ?_
      refine go_iadd hC dX5_deliver_222 ?_
      refine go_iconst hC dX5_deliver_223 (v := (1 : Int32)) (by decide +kernel) ?_
      obtain ⟨h10, h⟩ := os_1 h
      refine go_zast hC h10.1 h10.2 dX5_deliver_224 ?_
      obtain ⟨M11, e12, h⟩ := os_l h
      refine go_eq (pc' := 225) (st' := []) (M' := M11) (lv' := [(0, .ref v0), (2, .int v2), (3, .int v3), (4, .int v4), (5, .int v5)]) ?_ rfl rfl rfl e12
      refine go_aload_n hC dX5_deliver_225 rfl 0 rfl ?_
      refine go_iload hC dX5_deliver_226 4 rfl ?_
      obtain ⟨h16, h⟩ := os_1 h
      obtain ⟨r13, M14, h15, h⟩ := os_c h
      refine go_callV (bytes := cX5_allSaid) (maxL := 4) (ret := (some .boolean)) (n := 1) (As := [.int v5]) (st := []) hE (c_X5_allSaid K.2.1 h15) (by unfold okY; decide +kernel) rfl h16 rfl (C := RX5) (T := TX5) (N := 28) rfl m_623 m_620 m_621 m_622 m_5 rfl (by simp [Value.category]) (by decide) (by decide) dX5_deliver_228 ?_
      refine go_eq (pc' := 231) (st' := [.int r13]) (M' := M14) (lv' := [(0, .ref v0), (2, .int v2), (3, .int v3), (4, .int v4), (5, .int v5)]) ?_ rfl rfl rfl rfl
      refine go_if_ne (t := 236) hC dX5_deliver_231 (by decide) (fun c17 => ?_) (fun c17 => ?_)
      · have h := os_f h c17
        refine go_aload_n hC dX5_deliver_236 rfl 0 rfl ?_
        refine go_iload hC dX5_deliver_237 4 rfl ?_
        obtain ⟨h21, h⟩ := os_1 h
        obtain ⟨r18, M19, h20, h⟩ := os_c h
        refine go_callV (bytes := cX5_commits) (maxL := 4) (ret := none) (n := 1) (As := [.int v5]) (st := []) hE (c_X5_commits K.2.1 h20) (by unfold okY; decide +kernel) rfl h21 rfl (C := RX5) (T := TX5) (N := 28) rfl m_491 m_488 m_489 m_490 m_5 rfl (by simp [Value.category]) (by decide) (by decide) dX5_deliver_239 ?_
        refine go_eq (pc' := 242) (st' := []) (M' := M19) (lv' := [(0, .ref v0), (2, .int v2), (3, .int v3), (4, .int v4), (5, .int v5)]) ?_ rfl rfl rfl rfl
        refine go_iconst hC dX5_deliver_242 (v := (1 : Int32)) (by decide +kernel) ?_
        refine go_aload_n hC dX5_deliver_243 rfl 0 rfl ?_
        refine go_iload hC dX5_deliver_244 3 rfl ?_
        obtain ⟨h25, h⟩ := os_1 h
        obtain ⟨r22, M23, h24, h⟩ := os_c h
        refine go_callV (bytes := cX5_settles) (maxL := 5) (ret := (some .int)) (n := 1) (As := [.int v4]) (st := [.int (1 : Int32)]) hE (c_X5_settles K.2.1 h24) (by unfold okY; decide +kernel) rfl h25 rfl (C := RX5) (T := TX5) (N := 28) rfl m_627 m_624 m_625 m_626 m_5 rfl (by simp [Value.category]) (by decide) (by decide) dX5_deliver_246 ?_
        refine go_eq (pc' := 249) (st' := [.int r22, .int (1 : Int32)]) (M' := M23) (lv' := [(0, .ref v0), (2, .int v2), (3, .int v3), (4, .int v4), (5, .int v5)]) ?_ rfl rfl rfl rfl
        refine go_iadd hC dX5_deliver_249 ?_
        cases h
        exact go_iret hE dX5_deliver_250
      · have h := os_t h c17
        refine go_iconst hC dX5_deliver_234 (v := (0 : Int32)) (by decide +kernel) ?_
        cases h
        exact go_iret hE dX5_deliver_235
    · have h := os_t h c6
      refine go_aload_n hC dX5_deliver_197 rfl 0 rfl ?_
      obtain ⟨h26, h⟩ := os_1 h
      obtain ⟨b27, h28, h⟩ := os_b h
      refine go_getR 7 hC h26 rfl rfl h28 (C := RX5) (T := TX5) (N := 28) rfl inlX5 (by decide) m_81 (Or.inl rfl) dX5_deliver_198 ?_
      refine go_iload hC dX5_deliver_201 4 rfl ?_
      refine go_iconst hC dX5_deliver_203 (v := (3 : Int32)) (by decide +kernel) ?_
      obtain ⟨h29, h⟩ := os_1 h
      refine go_iast hC h29.1 h29.2 dX5_deliver_204 ?_
      refine go_aload_n hC dX5_deliver_205 rfl 0 rfl ?_
      refine go_iload hC dX5_deliver_206 4 rfl ?_
      obtain ⟨h33, h⟩ := os_1 h
      obtain ⟨r30, M31, h32, h⟩ := os_c h
      refine go_callV (bytes := cX5_frees) (maxL := 3) (ret := none) (n := 1) (As := [.int v5]) (st := []) hE (c_X5_frees K.2.1 h32) (by unfold okY; decide +kernel) rfl h33 rfl (C := RX5) (T := TX5) (N := 28) rfl m_619 m_616 m_617 m_618 m_5 rfl (by simp [Value.category]) (by decide) (by decide) dX5_deliver_208 ?_
      refine go_eq (pc' := 211) (st' := []) (M' := M31) (lv' := [(0, .ref v0), (2, .int v2), (3, .int v3), (4, .int v4), (5, .int v5)]) ?_ rfl rfl rfl rfl
      refine go_iconst hC dX5_deliver_211 (v := (0 : Int32)) (by decide +kernel) ?_
      cases h
      exact go_iret hE dX5_deliver_212
  · have h := os_f h c5
    refine go_iconst hC dX5_deliver_190 (v := (0 : Int32)) (by decide +kernel) ?_
    cases h
    exact go_iret hE dX5_deliver_191
def fX5_deliver_307 (x9 : Cx) (k9 : Nat) (v0 : Nat) (v4 : Int32) (M : Mm) : Option (Int32 × Mm) :=
  if mK M v0 = 6 then ob2 (fX5_settles x9 k9 v0 v4 M) (fun r1 M2 => some (r1, M2)) else none
set_option maxRecDepth 100000 in
set_option maxHeartbeats 4000000 in
theorem tX5_deliver_307 {x9 : Cx} {K : Ct} {k9 : Nat} {M0 M9 : Mm} {r9 : Int32} (hE : Ce x9 K RX5 cX5_deliver 6 (some .int) 3 72 "deliver" M0) (v0 : Nat) (v4 : Int32) (M : Mm) (h : fX5_deliver_307 x9 k9 v0 v4 M = some (r9, M9)) : Go x9 K 6 (Qf x9 K M0 (some (.int r9)) M9) 307 [(0, .ref v0), (4, .int v4)] [] M := by
  have hC := hE.1
  have hnm := hE.2.2.2.2.2.2.2.1
  unfold fX5_deliver_307 at h
  refine go_aload_n hC dX5_deliver_307 rfl 0 rfl ?_
  refine go_iload hC dX5_deliver_308 1 rfl ?_
  obtain ⟨h4, h⟩ := os_1 h
  obtain ⟨r1, M2, h3, h⟩ := os_c h
  refine go_callV (bytes := cX5_settles) (maxL := 5) (ret := (some .int)) (n := 1) (As := [.int v4]) (st := []) hE (c_X5_settles K.2.1 h3) (by unfold okY; decide +kernel) rfl h4 rfl (C := RX5) (T := TX5) (N := 28) rfl m_627 m_624 m_625 m_626 m_5 rfl (by simp [Value.category]) (by decide) (by decide) dX5_deliver_310 ?_
  refine go_eq (pc' := 313) (st' := [.int r1]) (M' := M2) (lv' := [(0, .ref v0), (4, .int v4)]) ?_ rfl rfl rfl rfl
  cases h
  exact go_iret hE dX5_deliver_313
def fX5_deliver_167 (x9 : Cx) (k9 : Nat) (M : Mm) : Option (Int32 × Mm) :=
  some ((0 : Int32), M)
set_option maxRecDepth 100000 in
set_option maxHeartbeats 4000000 in
theorem tX5_deliver_167 {x9 : Cx} {K : Ct} {k9 : Nat} {M0 M9 : Mm} {r9 : Int32} (hE : Ce x9 K RX5 cX5_deliver 6 (some .int) 3 72 "deliver" M0) (M : Mm) (h : fX5_deliver_167 x9 k9 M = some (r9, M9)) : Go x9 K 6 (Qf x9 K M0 (some (.int r9)) M9) 167 [] [] M := by
  have hC := hE.1
  have hnm := hE.2.2.2.2.2.2.2.1
  unfold fX5_deliver_167 at h
  refine go_iconst hC dX5_deliver_167 (v := (0 : Int32)) (by decide +kernel) ?_
  cases h
  exact go_iret hE dX5_deliver_168
def fX5_deliver_136 (x9 : Cx) (k9 : Nat) (v0 : Nat) (v3 : Int32) (v4 : Int32) (v5 : Int32) (M : Mm) : Option (Int32 × Mm) :=
  if mK M v0 = 6 then ob2 (fX5_send x9 k9 v0 (3 : Int32) v4 v3 v5 M) (fun r1 M2 => fX5_deliver_167 x9 k9 M2) else none
set_option maxRecDepth 100000 in
set_option maxHeartbeats 4000000 in
theorem tX5_deliver_136 {x9 : Cx} {K : Ct} {k9 : Nat} {M0 M9 : Mm} {r9 : Int32} (hE : Ce x9 K RX5 cX5_deliver 6 (some .int) 3 72 "deliver" M0) (v0 : Nat) (v3 : Int32) (v4 : Int32) (v5 : Int32) (M : Mm) (h : fX5_deliver_136 x9 k9 v0 v3 v4 v5 M = some (r9, M9)) : Go x9 K 6 (Qf x9 K M0 (some (.int r9)) M9) 136 [(0, .ref v0), (3, .int v3), (4, .int v4), (5, .int v5)] [] M := by
  have hC := hE.1
  have hnm := hE.2.2.2.2.2.2.2.1
  unfold fX5_deliver_136 at h
  refine go_aload_n hC dX5_deliver_136 rfl 0 rfl ?_
  refine go_iconst hC dX5_deliver_137 (v := (3 : Int32)) (by decide +kernel) ?_
  refine go_iload hC dX5_deliver_138 2 rfl ?_
  refine go_iload_n hC dX5_deliver_140 rfl 1 rfl ?_
  refine go_iload hC dX5_deliver_141 3 rfl ?_
  obtain ⟨h4, h⟩ := os_1 h
  obtain ⟨r1, M2, h3, h⟩ := os_c h
  refine go_callV (bytes := cX5_send) (maxL := 5) (ret := none) (n := 4) (As := [.int (3 : Int32), .int v4, .int v3, .int v5]) (st := []) hE (c_X5_send K.2.1 h3) (by unfold okY; decide +kernel) rfl h4 rfl (C := RX5) (T := TX5) (N := 28) rfl m_503 m_500 m_501 m_502 m_5 rfl (by simp [Value.category]) (by decide) (by decide) dX5_deliver_143 ?_
  refine go_eq (pc' := 146) (st' := []) (M' := M2) (lv' := [(0, .ref v0), (3, .int v3), (4, .int v4), (5, .int v5)]) ?_ rfl rfl rfl rfl
  refine go_goto (t := 167) hC dX5_deliver_146 (by decide) ?_
  refine go_sub (lv' := []) [] rfl ?_
  exact tX5_deliver_167 hE _ h
def fX5_deliver_18 (x9 : Cx) (k9 : Nat) (v0 : Nat) (v1 : Int32) (s0 : Nat) (s1 : Int32) (M : Mm) : Option (Int32 × Mm) :=
  if mK M s0 = 6 then ob2 (fX5_fails x9 k9 s0 s1 (1 : Int32) M) (fun r1 M2 => if r1 = 0 then if mK M2 v0 = 6 then ob1 (mP M2 v0 22) (fun b7 => if mK M2 b7 = 8 ∧ ¬ (((4 : Int32) * v1) < 0 ∨ mN M2 b7 ≤ (((4 : Int32) * v1)).toNatClampNeg) then if mK M2 v0 = 6 then ob1 (mP M2 v0 22) (fun b11 => if mK M2 b11 = 8 ∧ ¬ ((((4 : Int32) * v1) + (1 : Int32)) < 0 ∨ mN M2 b11 ≤ ((((4 : Int32) * v1) + (1 : Int32))).toNatClampNeg) then if mK M2 v0 = 6 then ob1 (mP M2 v0 22) (fun b15 => if mK M2 b15 = 8 ∧ ¬ ((((4 : Int32) * v1) + (2 : Int32)) < 0 ∨ mN M2 b15 ≤ ((((4 : Int32) * v1) + (2 : Int32))).toNatClampNeg) then if mK M2 v0 = 6 then ob1 (mP M2 v0 22) (fun b19 => if mK M2 b19 = 8 ∧ ¬ ((((4 : Int32) * v1) + (3 : Int32)) < 0 ∨ mN M2 b19 ≤ ((((4 : Int32) * v1) + (3 : Int32))).toNatClampNeg) then if mK M2 v0 = 6 then ob2 (fX5_takesOut x9 k9 v0 v1 M2) (fun r22 M23 => if mK M23 v0 = 6 then ob1 (mP M23 v0 2) (fun b27 => if mK M23 b27 = 9 ∧ ¬ ((mV M2 b15 ((((4 : Int32) * v1) + (2 : Int32))).toNatClampNeg) < 0 ∨ mN M23 b27 ≤ ((mV M2 b15 ((((4 : Int32) * v1) + (2 : Int32))).toNatClampNeg)).toNatClampNeg) then if (mV M23 b27 ((mV M2 b15 ((((4 : Int32) * v1) + (2 : Int32))).toNatClampNeg)).toNatClampNeg) = 0 then if (mV M2 b7 (((4 : Int32) * v1)).toNatClampNeg) = (1 : Int32) then if mK M23 v0 = 6 then ob1 (mP M23 v0 10) (fun b57 => if mK M23 b57 = 8 ∧ ¬ ((((5 : Int32) * (mV M2 b19 ((((4 : Int32) * v1) + (3 : Int32))).toNatClampNeg)) + (mV M2 b15 ((((4 : Int32) * v1) + (2 : Int32))).toNatClampNeg)) < 0 ∨ mN M23 b57 ≤ ((((5 : Int32) * (mV M2 b19 ((((4 : Int32) * v1) + (3 : Int32))).toNatClampNeg)) + (mV M2 b15 ((((4 : Int32) * v1) + (2 : Int32))).toNatClampNeg))).toNatClampNeg) then if (mV M23 b57 ((((5 : Int32) * (mV M2 b19 ((((4 : Int32) * v1) + (3 : Int32))).toNatClampNeg)) + (mV M2 b15 ((((4 : Int32) * v1) + (2 : Int32))).toNatClampNeg))).toNatClampNeg) ≤ 0 then if mK M23 v0 = 6 then ob1 (mP M23 v0 12) (fun b62 => if mK M23 b62 = 9 ∧ ¬ ((((5 : Int32) * (mV M2 b19 ((((4 : Int32) * v1) + (3 : Int32))).toNatClampNeg)) + (mV M2 b15 ((((4 : Int32) * v1) + (2 : Int32))).toNatClampNeg)) < 0 ∨ mN M23 b62 ≤ ((((5 : Int32) * (mV M2 b19 ((((4 : Int32) * v1) + (3 : Int32))).toNatClampNeg)) + (mV M2 b15 ((((4 : Int32) * v1) + (2 : Int32))).toNatClampNeg))).toNatClampNeg) then if (mV M23 b62 ((((5 : Int32) * (mV M2 b19 ((((4 : Int32) * v1) + (3 : Int32))).toNatClampNeg)) + (mV M2 b15 ((((4 : Int32) * v1) + (2 : Int32))).toNatClampNeg))).toNatClampNeg) = 0 then if mK M23 v0 = 6 then ob2 (fX5_allFit x9 k9 v0 (mV M2 b19 ((((4 : Int32) * v1) + (3 : Int32))).toNatClampNeg) (mV M2 b15 ((((4 : Int32) * v1) + (2 : Int32))).toNatClampNeg) M23) (fun r66 M67 => if r66 = 0 then fX5_deliver_136 x9 k9 v0 (mV M2 b11 ((((4 : Int32) * v1) + (1 : Int32))).toNatClampNeg) (mV M2 b15 ((((4 : Int32) * v1) + (2 : Int32))).toNatClampNeg) (mV M2 b19 ((((4 : Int32) * v1) + (3 : Int32))).toNatClampNeg) M67 else if mK M67 v0 = 6 then ob2 (fX5_lock x9 k9 v0 (mV M2 b19 ((((4 : Int32) * v1) + (3 : Int32))).toNatClampNeg) (mV M2 b15 ((((4 : Int32) * v1) + (2 : Int32))).toNatClampNeg) M67) (fun r71 M72 => if mK M72 v0 = 6 then ob2 (fX5_send x9 k9 v0 (2 : Int32) (mV M2 b15 ((((4 : Int32) * v1) + (2 : Int32))).toNatClampNeg) (mV M2 b11 ((((4 : Int32) * v1) + (1 : Int32))).toNatClampNeg) (mV M2 b19 ((((4 : Int32) * v1) + (3 : Int32))).toNatClampNeg) M72) (fun r75 M76 => fX5_deliver_167 x9 k9 M76) else none) else none) else none else fX5_deliver_136 x9 k9 v0 (mV M2 b11 ((((4 : Int32) * v1) + (1 : Int32))).toNatClampNeg) (mV M2 b15 ((((4 : Int32) * v1) + (2 : Int32))).toNatClampNeg) (mV M2 b19 ((((4 : Int32) * v1) + (3 : Int32))).toNatClampNeg) M23 else none) else none else some ((0 : Int32), M23) else none) else none else if (mV M2 b7 (((4 : Int32) * v1)).toNatClampNeg) = (2 : Int32) then fX5_deliver_179 x9 k9 v0 (mV M2 b7 (((4 : Int32) * v1)).toNatClampNeg) (mV M2 b11 ((((4 : Int32) * v1) + (1 : Int32))).toNatClampNeg) (mV M2 b15 ((((4 : Int32) * v1) + (2 : Int32))).toNatClampNeg) (mV M2 b19 ((((4 : Int32) * v1) + (3 : Int32))).toNatClampNeg) M23 else if (mV M2 b7 (((4 : Int32) * v1)).toNatClampNeg) = (3 : Int32) then fX5_deliver_179 x9 k9 v0 (mV M2 b7 (((4 : Int32) * v1)).toNatClampNeg) (mV M2 b11 ((((4 : Int32) * v1) + (1 : Int32))).toNatClampNeg) (mV M2 b15 ((((4 : Int32) * v1) + (2 : Int32))).toNatClampNeg) (mV M2 b19 ((((4 : Int32) * v1) + (3 : Int32))).toNatClampNeg) M23 else if (mV M2 b7 (((4 : Int32) * v1)).toNatClampNeg) = (4 : Int32) then if mK M23 v0 = 6 then ob1 (mP M23 v0 12) (fun b47 => if mK M23 b47 = 9 ∧ ¬ ((((5 : Int32) * (mV M2 b19 ((((4 : Int32) * v1) + (3 : Int32))).toNatClampNeg)) + (mV M2 b15 ((((4 : Int32) * v1) + (2 : Int32))).toNatClampNeg)) < 0 ∨ mN M23 b47 ≤ ((((5 : Int32) * (mV M2 b19 ((((4 : Int32) * v1) + (3 : Int32))).toNatClampNeg)) + (mV M2 b15 ((((4 : Int32) * v1) + (2 : Int32))).toNatClampNeg))).toNatClampNeg) then lt1 (sV M23 b47 ((((5 : Int32) * (mV M2 b19 ((((4 : Int32) * v1) + (3 : Int32))).toNatClampNeg)) + (mV M2 b15 ((((4 : Int32) * v1) + (2 : Int32))).toNatClampNeg))).toNatClampNeg (vp_nar .boolean (1 : Int32))) (fun M50 => if mK M50 v0 = 6 then ob2 (fX5_unlock x9 k9 v0 (mV M2 b19 ((((4 : Int32) * v1) + (3 : Int32))).toNatClampNeg) (mV M2 b15 ((((4 : Int32) * v1) + (2 : Int32))).toNatClampNeg) M50) (fun r52 M53 => some ((0 : Int32), M53)) else none) else none) else none else if mK M23 v0 = 6 then ob1 (mP M23 v0 10) (fun b36 => if mK M23 b36 = 8 ∧ ¬ ((((5 : Int32) * (mV M2 b19 ((((4 : Int32) * v1) + (3 : Int32))).toNatClampNeg)) + (mV M2 b15 ((((4 : Int32) * v1) + (2 : Int32))).toNatClampNeg)) < 0 ∨ mN M23 b36 ≤ ((((5 : Int32) * (mV M2 b19 ((((4 : Int32) * v1) + (3 : Int32))).toNatClampNeg)) + (mV M2 b15 ((((4 : Int32) * v1) + (2 : Int32))).toNatClampNeg))).toNatClampNeg) then if (mV M23 b36 ((((5 : Int32) * (mV M2 b19 ((((4 : Int32) * v1) + (3 : Int32))).toNatClampNeg)) + (mV M2 b15 ((((4 : Int32) * v1) + (2 : Int32))).toNatClampNeg))).toNatClampNeg) = 0 then if mK M23 v0 = 6 then ob1 (mP M23 v0 11) (fun b41 => if mK M23 b41 = 9 ∧ ¬ ((((5 : Int32) * (mV M2 b19 ((((4 : Int32) * v1) + (3 : Int32))).toNatClampNeg)) + (mV M2 b15 ((((4 : Int32) * v1) + (2 : Int32))).toNatClampNeg)) < 0 ∨ mN M23 b41 ≤ ((((5 : Int32) * (mV M2 b19 ((((4 : Int32) * v1) + (3 : Int32))).toNatClampNeg)) + (mV M2 b15 ((((4 : Int32) * v1) + (2 : Int32))).toNatClampNeg))).toNatClampNeg) then lt1 (sV M23 b41 ((((5 : Int32) * (mV M2 b19 ((((4 : Int32) * v1) + (3 : Int32))).toNatClampNeg)) + (mV M2 b15 ((((4 : Int32) * v1) + (2 : Int32))).toNatClampNeg))).toNatClampNeg (vp_nar .boolean (1 : Int32))) (fun M44 => fX5_deliver_307 x9 k9 v0 (mV M2 b15 ((((4 : Int32) * v1) + (2 : Int32))).toNatClampNeg) M44) else none) else none else fX5_deliver_307 x9 k9 v0 (mV M2 b15 ((((4 : Int32) * v1) + (2 : Int32))).toNatClampNeg) M23 else none) else none else some ((0 : Int32), M23) else none) else none) else none else none) else none else none) else none else none) else none else none) else none else some ((0 : Int32), M2)) else none
set_option maxRecDepth 100000 in
set_option maxHeartbeats 4000000 in
theorem tX5_deliver_18 {x9 : Cx} {K : Ct} {k9 : Nat} {M0 M9 : Mm} {r9 : Int32} (hE : Ce x9 K RX5 cX5_deliver 6 (some .int) 3 72 "deliver" M0) (v0 : Nat) (v1 : Int32) (s0 : Nat) (s1 : Int32) (M : Mm) (h : fX5_deliver_18 x9 k9 v0 v1 s0 s1 M = some (r9, M9)) : Go x9 K 6 (Qf x9 K M0 (some (.int r9)) M9) 18 [(0, .ref v0), (1, .int v1)] [.int s1, .ref s0] M := by
  have hC := hE.1
  have hnm := hE.2.2.2.2.2.2.2.1
  unfold fX5_deliver_18 at h
  refine go_iconst hC dX5_deliver_18 (v := (1 : Int32)) (by decide +kernel) ?_
  obtain ⟨h4, h⟩ := os_1 h
  obtain ⟨r1, M2, h3, h⟩ := os_c h
  refine go_callV (bytes := cX5_fails) (maxL := 3) (ret := (some .boolean)) (n := 2) (As := [.int s1, .int (1 : Int32)]) (st := []) hE (c_X5_fails K.2.1 h3) (by unfold okY; decide +kernel) rfl h4 rfl (C := RX5) (T := TX5) (N := 28) rfl m_127 m_124 m_125 m_126 m_5 rfl (by simp [Value.category]) (by decide) (by decide) dX5_deliver_19 ?_
  refine go_eq (pc' := 22) (st' := [.int r1]) (M' := M2) (lv' := [(0, .ref v0), (1, .int v1)]) ?_ rfl rfl rfl rfl
  refine go_if_eq (t := 27) hC dX5_deliver_22 (by decide) (fun c5 => ?_) (fun c5 => ?_)
  · have h := os_t h c5
    refine go_aload_n hC dX5_deliver_27 rfl 0 rfl ?_
    obtain ⟨h6, h⟩ := os_1 h
    obtain ⟨b7, h8, h⟩ := os_b h
    refine go_getR 22 hC h6 rfl rfl h8 (C := RX5) (T := TX5) (N := 28) rfl inlX5 (by decide) m_96 (Or.inl rfl) dX5_deliver_28 ?_
    refine go_iconst hC dX5_deliver_31 (v := (4 : Int32)) (by decide +kernel) ?_
    refine go_iload_n hC dX5_deliver_32 rfl 1 rfl ?_
    refine go_imul hC dX5_deliver_33 ?_
    obtain ⟨h9, h⟩ := os_1 h
    refine go_iald hC h9.1 h9.2 dX5_deliver_34 ?_
    refine go_istore_n (lv' := [(2, .int (mV M2 b7 (((4 : Int32) * v1)).toNatClampNeg)), (0, .ref v0), (1, .int v1)]) hC dX5_deliver_35 rfl (by decide) rfl ?_
    refine go_aload_n hC dX5_deliver_36 rfl 1 rfl ?_
    obtain ⟨h10, h⟩ := os_1 h
    obtain ⟨b11, h12, h⟩ := os_b h
    refine go_getR 22 hC h10 rfl rfl h12 (C := RX5) (T := TX5) (N := 28) rfl inlX5 (by decide) m_96 (Or.inl rfl) dX5_deliver_37 ?_
    refine go_iconst hC dX5_deliver_40 (v := (4 : Int32)) (by decide +kernel) ?_
    refine go_iload_n hC dX5_deliver_41 rfl 2 rfl ?_
    refine go_imul hC dX5_deliver_42 ?_
    refine go_iconst hC dX5_deliver_43 (v := (1 : Int32)) (by decide +kernel) ?_
    refine go_iadd hC dX5_deliver_44 ?_
    obtain ⟨h13, h⟩ := os_1 h
    refine go_iald hC h13.1 h13.2 dX5_deliver_45 ?_
    refine go_istore_n (lv' := [(3, .int (mV M2 b11 ((((4 : Int32) * v1) + (1 : Int32))).toNatClampNeg)), (2, .int (mV M2 b7 (((4 : Int32) * v1)).toNatClampNeg)), (0, .ref v0), (1, .int v1)]) hC dX5_deliver_46 rfl (by decide) rfl ?_
    refine go_aload_n hC dX5_deliver_47 rfl 2 rfl ?_
    obtain ⟨h14, h⟩ := os_1 h
    obtain ⟨b15, h16, h⟩ := os_b h
    refine go_getR 22 hC h14 rfl rfl h16 (C := RX5) (T := TX5) (N := 28) rfl inlX5 (by decide) m_96 (Or.inl rfl) dX5_deliver_48 ?_
    refine go_iconst hC dX5_deliver_51 (v := (4 : Int32)) (by decide +kernel) ?_
    refine go_iload_n hC dX5_deliver_52 rfl 3 rfl ?_
    refine go_imul hC dX5_deliver_53 ?_
    refine go_iconst hC dX5_deliver_54 (v := (2 : Int32)) (by decide +kernel) ?_
    refine go_iadd hC dX5_deliver_55 ?_
    obtain ⟨h17, h⟩ := os_1 h
    refine go_iald hC h17.1 h17.2 dX5_deliver_56 ?_
    refine go_istore (lv' := [(4, .int (mV M2 b15 ((((4 : Int32) * v1) + (2 : Int32))).toNatClampNeg)), (3, .int (mV M2 b11 ((((4 : Int32) * v1) + (1 : Int32))).toNatClampNeg)), (2, .int (mV M2 b7 (((4 : Int32) * v1)).toNatClampNeg)), (0, .ref v0), (1, .int v1)]) hC dX5_deliver_57 (by decide) rfl ?_
    refine go_aload_n hC dX5_deliver_59 rfl 3 rfl ?_
    obtain ⟨h18, h⟩ := os_1 h
    obtain ⟨b19, h20, h⟩ := os_b h
    refine go_getR 22 hC h18 rfl rfl h20 (C := RX5) (T := TX5) (N := 28) rfl inlX5 (by decide) m_96 (Or.inl rfl) dX5_deliver_60 ?_
    refine go_iconst hC dX5_deliver_63 (v := (4 : Int32)) (by decide +kernel) ?_
    refine go_iload_n hC dX5_deliver_64 rfl 4 rfl ?_
    refine go_imul hC dX5_deliver_65 ?_
    refine go_iconst hC dX5_deliver_66 (v := (3 : Int32)) (by decide +kernel) ?_
    refine go_iadd hC dX5_deliver_67 ?_
    obtain ⟨h21, h⟩ := os_1 h
    refine go_iald hC h21.1 h21.2 dX5_deliver_68 ?_
    refine go_istore (lv' := [(5, .int (mV M2 b19 ((((4 : Int32) * v1) + (3 : Int32))).toNatClampNeg)), (4, .int (mV M2 b15 ((((4 : Int32) * v1) + (2 : Int32))).toNatClampNeg)), (3, .int (mV M2 b11 ((((4 : Int32) * v1) + (1 : Int32))).toNatClampNeg)), (2, .int (mV M2 b7 (((4 : Int32) * v1)).toNatClampNeg)), (0, .ref v0), (1, .int v1)]) hC dX5_deliver_69 (by decide) rfl ?_
    refine go_aload_n hC dX5_deliver_71 rfl 4 rfl ?_
    refine go_iload_n hC dX5_deliver_72 rfl 5 rfl ?_
    obtain ⟨h25, h⟩ := os_1 h
    obtain ⟨r22, M23, h24, h⟩ := os_c h
    refine go_callV (bytes := cX5_takesOut) (maxL := 3) (ret := none) (n := 1) (As := [.int v1]) (st := []) hE (c_X5_takesOut K.2.1 h24) (by unfold okY; decide +kernel) rfl h25 rfl (C := RX5) (T := TX5) (N := 28) rfl m_615 m_612 m_613 m_614 m_5 rfl (by simp [Value.category]) (by decide) (by decide) dX5_deliver_73 ?_
    refine go_eq (pc' := 76) (st' := []) (M' := M23) (lv' := [(5, .int (mV M2 b19 ((((4 : Int32) * v1) + (3 : Int32))).toNatClampNeg)), (4, .int (mV M2 b15 ((((4 : Int32) * v1) + (2 : Int32))).toNatClampNeg)), (3, .int (mV M2 b11 ((((4 : Int32) * v1) + (1 : Int32))).toNatClampNeg)), (2, .int (mV M2 b7 (((4 : Int32) * v1)).toNatClampNeg)), (0, .ref v0), (1, .int v1)]) ?_ rfl rfl rfl rfl
    refine go_aload_n hC dX5_deliver_76 rfl 4 rfl ?_
    obtain ⟨h26, h⟩ := os_1 h
    obtain ⟨b27, h28, h⟩ := os_b h
    refine go_getR 2 hC h26 rfl rfl h28 (C := RX5) (T := TX5) (N := 28) rfl inlX5 (by decide) m_78 (Or.inl rfl) dX5_deliver_77 ?_
    refine go_iload hC dX5_deliver_80 1 rfl ?_
    obtain ⟨h29, h⟩ := os_1 h
    refine go_zald hC h29.1 h29.2 dX5_deliver_82 ?_
    refine go_if_eq (t := 88) hC dX5_deliver_83 (by decide) (fun c30 => ?_) (fun c30 => ?_)
    · have h := os_t h c30
      refine go_iload_n hC dX5_deliver_88 rfl 3 rfl ?_
      refine go_iconst hC dX5_deliver_89 (v := (1 : Int32)) (by decide +kernel) ?_
      refine go_icmp_ne (t := 169) hC dX5_deliver_90 (by decide) (fun c31 => ?_) (fun c31 => ?_)
      · have h := os_f h c31
        refine go_iload_n hC dX5_deliver_169 rfl 3 rfl ?_
        refine go_iconst hC dX5_deliver_170 (v := (2 : Int32)) (by decide +kernel) ?_
        refine go_icmp_eq (t := 179) hC dX5_deliver_171 (by decide) (fun c32 => ?_) (fun c32 => ?_)
        · have h := os_t h c32
          refine go_sub (lv' := [(0, .ref v0), (2, .int (mV M2 b7 (((4 : Int32) * v1)).toNatClampNeg)), (3, .int (mV M2 b11 ((((4 : Int32) * v1) + (1 : Int32))).toNatClampNeg)), (4, .int (mV M2 b15 ((((4 : Int32) * v1) + (2 : Int32))).toNatClampNeg)), (5, .int (mV M2 b19 ((((4 : Int32) * v1) + (3 : Int32))).toNatClampNeg))]) [4, 3, 2, 1, 0] rfl ?_
          exact tX5_deliver_179 hE _ _ _ _ _ _ h
        · have h := os_f h c32
          refine go_iload_n hC dX5_deliver_174 rfl 3 rfl ?_
          refine go_iconst hC dX5_deliver_175 (v := (3 : Int32)) (by decide +kernel) ?_
          refine go_icmp_ne (t := 251) hC dX5_deliver_176 (by decide) (fun c33 => ?_) (fun c33 => ?_)
          · have h := os_f h c33
            refine go_iload_n hC dX5_deliver_251 rfl 3 rfl ?_
            refine go_iconst hC dX5_deliver_252 (v := (4 : Int32)) (by decide +kernel) ?_
            refine go_icmp_ne (t := 279) hC dX5_deliver_253 (by decide) (fun c34 => ?_) (fun c34 => ?_)
            · have h := os_f h c34
              refine go_aload_n hC dX5_deliver_279 rfl 4 rfl ?_
              obtain ⟨h35, h⟩ := os_1 h
              obtain ⟨b36, h37, h⟩ := os_b h
              refine go_getR 10 hC h35 rfl rfl h37 (C := RX5) (T := TX5) (N := 28) rfl inlX5 (by decide) m_84 (Or.inl rfl) dX5_deliver_280 ?_
              refine go_iconst hC dX5_deliver_283 (v := (5 : Int32)) (by decide +kernel) ?_
              refine go_iload hC dX5_deliver_284 0 rfl ?_
              refine go_imul hC dX5_deliver_286 ?_
              refine go_iload hC dX5_deliver_287 1 rfl ?_
              refine go_iadd hC dX5_deliver_289 ?_
              obtain ⟨h38, h⟩ := os_1 h
              refine go_iald hC h38.1 h38.2 dX5_deliver_290 ?_
              refine go_if_ne (t := 307) hC dX5_deliver_291 (by decide) (fun c39 => ?_) (fun c39 => ?_)
              · have h := os_f h c39
                refine go_sub (lv' := [(0, .ref v0), (4, .int (mV M2 b15 ((((4 : Int32) * v1) + (2 : Int32))).toNatClampNeg))]) [4, 1] rfl ?_
                exact tX5_deliver_307 hE _ _ _ h
              · have h := os_t h c39
                refine go_aload_n hC dX5_deliver_294 rfl 4 rfl ?_
                obtain ⟨h40, h⟩ := os_1 h
                obtain ⟨b41, h42, h⟩ := os_b h
                refine go_getR 11 hC h40 rfl rfl h42 (C := RX5) (T := TX5) (N := 28) rfl inlX5 (by decide) m_85 (Or.inl rfl) dX5_deliver_295 ?_
                refine go_iconst hC dX5_deliver_298 (v := (5 : Int32)) (by decide +kernel) ?_
                refine go_iload hC dX5_deliver_299 0 rfl ?_
                refine go_imul hC dX5_deliver_301 ?_
                refine go_iload hC dX5_deliver_302 1 rfl ?_
                refine go_iadd hC dX5_deliver_304 ?_
                refine go_iconst hC dX5_deliver_305 (v := (1 : Int32)) (by decide +kernel) ?_
                obtain ⟨h43, h⟩ := os_1 h
                refine go_zast hC h43.1 h43.2 dX5_deliver_306 ?_
                obtain ⟨M44, e45, h⟩ := os_l h
                refine go_eq (pc' := 307) (st' := []) (M' := M44) (lv' := [(5, .int (mV M2 b19 ((((4 : Int32) * v1) + (3 : Int32))).toNatClampNeg)), (4, .int (mV M2 b15 ((((4 : Int32) * v1) + (2 : Int32))).toNatClampNeg)), (3, .int (mV M2 b11 ((((4 : Int32) * v1) + (1 : Int32))).toNatClampNeg)), (2, .int (mV M2 b7 (((4 : Int32) * v1)).toNatClampNeg)), (0, .ref v0), (1, .int v1)]) ?_ rfl rfl rfl e45
                refine go_sub (lv' := [(0, .ref v0), (4, .int (mV M2 b15 ((((4 : Int32) * v1) + (2 : Int32))).toNatClampNeg))]) [4, 1] rfl ?_
                exact tX5_deliver_307 hE _ _ _ h
            · have h := os_t h c34
              refine go_aload_n hC dX5_deliver_256 rfl 4 rfl ?_
              obtain ⟨h46, h⟩ := os_1 h
              obtain ⟨b47, h48, h⟩ := os_b h
              refine go_getR 12 hC h46 rfl rfl h48 (C := RX5) (T := TX5) (N := 28) rfl inlX5 (by decide) m_86 (Or.inl rfl) dX5_deliver_257 ?_
              refine go_iconst hC dX5_deliver_260 (v := (5 : Int32)) (by decide +kernel) ?_
              refine go_iload hC dX5_deliver_261 0 rfl ?_
              refine go_imul hC dX5_deliver_263 ?_
              refine go_iload hC dX5_deliver_264 1 rfl ?_
              refine go_iadd hC dX5_deliver_266 ?_
              refine go_iconst hC dX5_deliver_267 (v := (1 : Int32)) (by decide +kernel) ?_
              obtain ⟨h49, h⟩ := os_1 h
              refine go_zast hC h49.1 h49.2 dX5_deliver_268 ?_
              obtain ⟨M50, e51, h⟩ := os_l h
              refine go_eq (pc' := 269) (st' := []) (M' := M50) (lv' := [(5, .int (mV M2 b19 ((((4 : Int32) * v1) + (3 : Int32))).toNatClampNeg)), (4, .int (mV M2 b15 ((((4 : Int32) * v1) + (2 : Int32))).toNatClampNeg)), (3, .int (mV M2 b11 ((((4 : Int32) * v1) + (1 : Int32))).toNatClampNeg)), (2, .int (mV M2 b7 (((4 : Int32) * v1)).toNatClampNeg)), (0, .ref v0), (1, .int v1)]) ?_ rfl rfl rfl e51
              refine go_aload_n hC dX5_deliver_269 rfl 4 rfl ?_
              refine go_iload hC dX5_deliver_270 0 rfl ?_
              refine go_iload hC dX5_deliver_272 1 rfl ?_
              obtain ⟨h55, h⟩ := os_1 h
              obtain ⟨r52, M53, h54, h⟩ := os_c h
              refine go_callV (bytes := cX5_unlock) (maxL := 4) (ret := none) (n := 2) (As := [.int (mV M2 b19 ((((4 : Int32) * v1) + (3 : Int32))).toNatClampNeg), .int (mV M2 b15 ((((4 : Int32) * v1) + (2 : Int32))).toNatClampNeg)]) (st := []) hE (c_X5_unlock K.2.1 h54) (by unfold okY; decide +kernel) rfl h55 rfl (C := RX5) (T := TX5) (N := 28) rfl m_499 m_496 m_497 m_498 m_5 rfl (by simp [Value.category]) (by decide) (by decide) dX5_deliver_274 ?_
              refine go_eq (pc' := 277) (st' := []) (M' := M53) (lv' := [(5, .int (mV M2 b19 ((((4 : Int32) * v1) + (3 : Int32))).toNatClampNeg)), (4, .int (mV M2 b15 ((((4 : Int32) * v1) + (2 : Int32))).toNatClampNeg)), (3, .int (mV M2 b11 ((((4 : Int32) * v1) + (1 : Int32))).toNatClampNeg)), (2, .int (mV M2 b7 (((4 : Int32) * v1)).toNatClampNeg)), (0, .ref v0), (1, .int v1)]) ?_ rfl rfl rfl rfl
              refine go_iconst hC dX5_deliver_277 (v := (0 : Int32)) (by decide +kernel) ?_
              cases h
              exact go_iret hE dX5_deliver_278
          · have h := os_t h c33
            refine go_sub (lv' := [(0, .ref v0), (2, .int (mV M2 b7 (((4 : Int32) * v1)).toNatClampNeg)), (3, .int (mV M2 b11 ((((4 : Int32) * v1) + (1 : Int32))).toNatClampNeg)), (4, .int (mV M2 b15 ((((4 : Int32) * v1) + (2 : Int32))).toNatClampNeg)), (5, .int (mV M2 b19 ((((4 : Int32) * v1) + (3 : Int32))).toNatClampNeg))]) [4, 3, 2, 1, 0] rfl ?_
            exact tX5_deliver_179 hE _ _ _ _ _ _ h
      · have h := os_t h c31
        refine go_aload_n hC dX5_deliver_93 rfl 4 rfl ?_
        obtain ⟨h56, h⟩ := os_1 h
        obtain ⟨b57, h58, h⟩ := os_b h
        refine go_getR 10 hC h56 rfl rfl h58 (C := RX5) (T := TX5) (N := 28) rfl inlX5 (by decide) m_84 (Or.inl rfl) dX5_deliver_94 ?_
        refine go_iconst hC dX5_deliver_97 (v := (5 : Int32)) (by decide +kernel) ?_
        refine go_iload hC dX5_deliver_98 0 rfl ?_
        refine go_imul hC dX5_deliver_100 ?_
        refine go_iload hC dX5_deliver_101 1 rfl ?_
        refine go_iadd hC dX5_deliver_103 ?_
        obtain ⟨h59, h⟩ := os_1 h
        refine go_iald hC h59.1 h59.2 dX5_deliver_104 ?_
        refine go_if_le (t := 110) hC dX5_deliver_105 (by decide) (fun c60 => ?_) (fun c60 => ?_)
        · have h := os_t h c60
          refine go_aload_n hC dX5_deliver_110 rfl 4 rfl ?_
          obtain ⟨h61, h⟩ := os_1 h
          obtain ⟨b62, h63, h⟩ := os_b h
          refine go_getR 12 hC h61 rfl rfl h63 (C := RX5) (T := TX5) (N := 28) rfl inlX5 (by decide) m_86 (Or.inl rfl) dX5_deliver_111 ?_
          refine go_iconst hC dX5_deliver_114 (v := (5 : Int32)) (by decide +kernel) ?_
          refine go_iload hC dX5_deliver_115 0 rfl ?_
          refine go_imul hC dX5_deliver_117 ?_
          refine go_iload hC dX5_deliver_118 1 rfl ?_
          refine go_iadd hC dX5_deliver_120 ?_
          obtain ⟨h64, h⟩ := os_1 h
          refine go_zald hC h64.1 h64.2 dX5_deliver_121 ?_
          refine go_if_ne (t := 136) hC dX5_deliver_122 (by decide) (fun c65 => ?_) (fun c65 => ?_)
          · have h := os_f h c65
            refine go_sub (lv' := [(0, .ref v0), (3, .int (mV M2 b11 ((((4 : Int32) * v1) + (1 : Int32))).toNatClampNeg)), (4, .int (mV M2 b15 ((((4 : Int32) * v1) + (2 : Int32))).toNatClampNeg)), (5, .int (mV M2 b19 ((((4 : Int32) * v1) + (3 : Int32))).toNatClampNeg))]) [4, 2, 1, 0] rfl ?_
            exact tX5_deliver_136 hE _ _ _ _ _ h
          · have h := os_t h c65
            refine go_aload_n hC dX5_deliver_125 rfl 4 rfl ?_
            refine go_iload hC dX5_deliver_126 0 rfl ?_
            refine go_iload hC dX5_deliver_128 1 rfl ?_
            obtain ⟨h69, h⟩ := os_1 h
            obtain ⟨r66, M67, h68, h⟩ := os_c h
            refine go_callV (bytes := cX5_allFit) (maxL := 5) (ret := (some .boolean)) (n := 2) (As := [.int (mV M2 b19 ((((4 : Int32) * v1) + (3 : Int32))).toNatClampNeg), .int (mV M2 b15 ((((4 : Int32) * v1) + (2 : Int32))).toNatClampNeg)]) (st := []) hE (c_X5_allFit K.2.1 h68) (by unfold okY; decide +kernel) rfl h69 rfl (C := RX5) (T := TX5) (N := 28) rfl m_483 m_480 m_481 m_482 m_5 rfl (by simp [Value.category]) (by decide) (by decide) dX5_deliver_130 ?_
            refine go_eq (pc' := 133) (st' := [.int r66]) (M' := M67) (lv' := [(5, .int (mV M2 b19 ((((4 : Int32) * v1) + (3 : Int32))).toNatClampNeg)), (4, .int (mV M2 b15 ((((4 : Int32) * v1) + (2 : Int32))).toNatClampNeg)), (3, .int (mV M2 b11 ((((4 : Int32) * v1) + (1 : Int32))).toNatClampNeg)), (2, .int (mV M2 b7 (((4 : Int32) * v1)).toNatClampNeg)), (0, .ref v0), (1, .int v1)]) ?_ rfl rfl rfl rfl
            refine go_if_ne (t := 149) hC dX5_deliver_133 (by decide) (fun c70 => ?_) (fun c70 => ?_)
            · have h := os_f h c70
              refine go_aload_n hC dX5_deliver_149 rfl 4 rfl ?_
              refine go_iload hC dX5_deliver_150 0 rfl ?_
              refine go_iload hC dX5_deliver_152 1 rfl ?_
              obtain ⟨h74, h⟩ := os_1 h
              obtain ⟨r71, M72, h73, h⟩ := os_c h
              refine go_callV (bytes := cX5_lock) (maxL := 4) (ret := none) (n := 2) (As := [.int (mV M2 b19 ((((4 : Int32) * v1) + (3 : Int32))).toNatClampNeg), .int (mV M2 b15 ((((4 : Int32) * v1) + (2 : Int32))).toNatClampNeg)]) (st := []) hE (c_X5_lock K.2.1 h73) (by unfold okY; decide +kernel) rfl h74 rfl (C := RX5) (T := TX5) (N := 28) rfl m_507 m_504 m_505 m_506 m_5 rfl (by simp [Value.category]) (by decide) (by decide) dX5_deliver_154 ?_
              refine go_eq (pc' := 157) (st' := []) (M' := M72) (lv' := [(5, .int (mV M2 b19 ((((4 : Int32) * v1) + (3 : Int32))).toNatClampNeg)), (4, .int (mV M2 b15 ((((4 : Int32) * v1) + (2 : Int32))).toNatClampNeg)), (3, .int (mV M2 b11 ((((4 : Int32) * v1) + (1 : Int32))).toNatClampNeg)), (2, .int (mV M2 b7 (((4 : Int32) * v1)).toNatClampNeg)), (0, .ref v0), (1, .int v1)]) ?_ rfl rfl rfl rfl
              refine go_aload_n hC dX5_deliver_157 rfl 4 rfl ?_
              refine go_iconst hC dX5_deliver_158 (v := (2 : Int32)) (by decide +kernel) ?_
              refine go_iload hC dX5_deliver_159 1 rfl ?_
              refine go_iload_n hC dX5_deliver_161 rfl 2 rfl ?_
              refine go_iload hC dX5_deliver_162 0 rfl ?_
              obtain ⟨h78, h⟩ := os_1 h
              obtain ⟨r75, M76, h77, h⟩ := os_c h
              refine go_callV (bytes := cX5_send) (maxL := 5) (ret := none) (n := 4) (As := [.int (2 : Int32), .int (mV M2 b15 ((((4 : Int32) * v1) + (2 : Int32))).toNatClampNeg), .int (mV M2 b11 ((((4 : Int32) * v1) + (1 : Int32))).toNatClampNeg), .int (mV M2 b19 ((((4 : Int32) * v1) + (3 : Int32))).toNatClampNeg)]) (st := []) hE (c_X5_send K.2.1 h77) (by unfold okY; decide +kernel) rfl h78 rfl (C := RX5) (T := TX5) (N := 28) rfl m_503 m_500 m_501 m_502 m_5 rfl (by simp [Value.category]) (by decide) (by decide) dX5_deliver_164 ?_
              refine go_eq (pc' := 167) (st' := []) (M' := M76) (lv' := [(5, .int (mV M2 b19 ((((4 : Int32) * v1) + (3 : Int32))).toNatClampNeg)), (4, .int (mV M2 b15 ((((4 : Int32) * v1) + (2 : Int32))).toNatClampNeg)), (3, .int (mV M2 b11 ((((4 : Int32) * v1) + (1 : Int32))).toNatClampNeg)), (2, .int (mV M2 b7 (((4 : Int32) * v1)).toNatClampNeg)), (0, .ref v0), (1, .int v1)]) ?_ rfl rfl rfl rfl
              refine go_sub (lv' := []) [] rfl ?_
              exact tX5_deliver_167 hE _ h
            · have h := os_t h c70
              refine go_sub (lv' := [(0, .ref v0), (3, .int (mV M2 b11 ((((4 : Int32) * v1) + (1 : Int32))).toNatClampNeg)), (4, .int (mV M2 b15 ((((4 : Int32) * v1) + (2 : Int32))).toNatClampNeg)), (5, .int (mV M2 b19 ((((4 : Int32) * v1) + (3 : Int32))).toNatClampNeg))]) [4, 2, 1, 0] rfl ?_
              exact tX5_deliver_136 hE _ _ _ _ _ h
        · have h := os_f h c60
          refine go_iconst hC dX5_deliver_108 (v := (0 : Int32)) (by decide +kernel) ?_
          cases h
          exact go_iret hE dX5_deliver_109
    · have h := os_f h c30
      refine go_iconst hC dX5_deliver_86 (v := (0 : Int32)) (by decide +kernel) ?_
      cases h
      exact go_iret hE dX5_deliver_87
  · have h := os_f h c5
    refine go_iconst hC dX5_deliver_25 (v := (0 : Int32)) (by decide +kernel) ?_
    cases h
    exact go_iret hE dX5_deliver_26
def fX5_deliver_13 (x9 : Cx) (k9 : Nat) (v0 : Nat) (v1 : Int32) (s0 : Nat) (M : Mm) : Option (Int32 × Mm) :=
  fX5_deliver_18 x9 k9 v0 v1 s0 (1 : Int32) M
set_option maxRecDepth 100000 in
set_option maxHeartbeats 4000000 in
theorem tX5_deliver_13 {x9 : Cx} {K : Ct} {k9 : Nat} {M0 M9 : Mm} {r9 : Int32} (hE : Ce x9 K RX5 cX5_deliver 6 (some .int) 3 72 "deliver" M0) (v0 : Nat) (v1 : Int32) (s0 : Nat) (M : Mm) (h : fX5_deliver_13 x9 k9 v0 v1 s0 M = some (r9, M9)) : Go x9 K 6 (Qf x9 K M0 (some (.int r9)) M9) 13 [(0, .ref v0), (1, .int v1)] [.ref s0] M := by
  have hC := hE.1
  have hnm := hE.2.2.2.2.2.2.2.1
  unfold fX5_deliver_13 at h
  refine go_iconst hC dX5_deliver_13 (v := (1 : Int32)) (by decide +kernel) ?_
  refine go_goto (t := 18) hC dX5_deliver_14 (by decide) ?_
  exact tX5_deliver_18 hE _ _ _ _ _ h
def fX5_deliver (x9 : Cx) (k9 : Nat) (v0 : Nat) (v1 : Int32) (M : Mm) : Option (Int32 × Mm) :=
  if v1 < 0 then fX5_deliver_13 x9 k9 v0 v1 v0 M else if mK M v0 = 6 then if v1 < (mV M v0 23) then fX5_deliver_18 x9 k9 v0 v1 v0 (0 : Int32) M else fX5_deliver_13 x9 k9 v0 v1 v0 M else none
set_option maxRecDepth 100000 in
set_option maxHeartbeats 4000000 in
theorem tX5_deliver_0 {x9 : Cx} {K : Ct} {k9 : Nat} {M0 M9 : Mm} {r9 : Int32} (hE : Ce x9 K RX5 cX5_deliver 6 (some .int) 3 72 "deliver" M0) (v0 : Nat) (v1 : Int32) (M : Mm) (h : fX5_deliver x9 k9 v0 v1 M = some (r9, M9)) : Go x9 K 6 (Qf x9 K M0 (some (.int r9)) M9) 0 [(0, .ref v0), (1, .int v1)] [] M := by
  have hC := hE.1
  have hnm := hE.2.2.2.2.2.2.2.1
  unfold fX5_deliver at h
  refine go_aload_n hC dX5_deliver_0 rfl 0 rfl ?_
  refine go_iload_n hC dX5_deliver_1 rfl 1 rfl ?_
  refine go_if_lt (t := 13) hC dX5_deliver_2 (by decide) (fun c1 => ?_) (fun c1 => ?_)
  · have h := os_t h c1
    exact tX5_deliver_13 hE _ _ _ _ h
  · have h := os_f h c1
    refine go_iload_n hC dX5_deliver_5 rfl 1 rfl ?_
    refine go_aload_n hC dX5_deliver_6 rfl 0 rfl ?_
    obtain ⟨h2, h⟩ := os_1 h
    refine go_getV 23 hC h2 rfl rfl (C := RX5) (T := TX5) (N := 28) rfl inlX5 (by decide) m_104 (Or.inl rfl) dX5_deliver_7 ?_
    refine go_icmp_lt (t := 17) hC dX5_deliver_10 (by decide) (fun c3 => ?_) (fun c3 => ?_)
    · have h := os_t h c3
      refine go_iconst hC dX5_deliver_17 (v := (0 : Int32)) (by decide +kernel) ?_
      exact tX5_deliver_18 hE _ _ _ _ _ h
    · have h := os_f h c3
      exact tX5_deliver_13 hE _ _ _ _ h
theorem c_X5_deliver (l : Launch) {x9 : Cx} {k9 : Nat} {M M9 : Mm} {r9 : Int32} {v0 : Nat} {v1 : Int32} (h : fX5_deliver x9 k9 v0 v1 M = some (r9, M9)) : Fn l x9 yX5_deliver cX5_deliver 6 (some .int) 3 72 [.ref v0, .int v1] M (some (.int r9)) M9 :=
  Fn.of (by decide +kernel) (Nat.le_of_ble_eq_true rfl) rfl (fun K _ hE => tX5_deliver_0 hE _ _ _ h)
/-! X5_drop -/
def fX5_drop_18 (x9 : Cx) (k9 : Nat) (v0 : Nat) (v1 : Int32) (s0 : Nat) (s1 : Int32) (M : Mm) : Option (Int32 × Mm) :=
  if mK M s0 = 6 then ob2 (fX5_fails x9 k9 s0 s1 (1 : Int32) M) (fun r1 M2 => if r1 = 0 then if mK M2 v0 = 6 then ob1 (mP M2 v0 22) (fun b7 => if mK M2 b7 = 8 ∧ ¬ (((4 : Int32) * v1) < 0 ∨ mN M2 b7 ≤ (((4 : Int32) * v1)).toNatClampNeg) then if mK M2 v0 = 6 then ob2 (fX5_takesOut x9 k9 v0 v1 M2) (fun r10 M11 => some ((mV M2 b7 (((4 : Int32) * v1)).toNatClampNeg), M11)) else none else none) else none else some ((0 : Int32), M2)) else none
set_option maxRecDepth 100000 in
set_option maxHeartbeats 4000000 in
theorem tX5_drop_18 {x9 : Cx} {K : Ct} {k9 : Nat} {M0 M9 : Mm} {r9 : Int32} (hE : Ce x9 K RX5 cX5_drop 3 (some .int) 1 22 "drop" M0) (v0 : Nat) (v1 : Int32) (s0 : Nat) (s1 : Int32) (M : Mm) (h : fX5_drop_18 x9 k9 v0 v1 s0 s1 M = some (r9, M9)) : Go x9 K 3 (Qf x9 K M0 (some (.int r9)) M9) 18 [(0, .ref v0), (1, .int v1)] [.int s1, .ref s0] M := by
  have hC := hE.1
  have hnm := hE.2.2.2.2.2.2.2.1
  unfold fX5_drop_18 at h
  refine go_iconst hC dX5_drop_18 (v := (1 : Int32)) (by decide +kernel) ?_
  obtain ⟨h4, h⟩ := os_1 h
  obtain ⟨r1, M2, h3, h⟩ := os_c h
  refine go_callV (bytes := cX5_fails) (maxL := 3) (ret := (some .boolean)) (n := 2) (As := [.int s1, .int (1 : Int32)]) (st := []) hE (c_X5_fails K.2.1 h3) (by unfold okY; decide +kernel) rfl h4 rfl (C := RX5) (T := TX5) (N := 28) rfl m_127 m_124 m_125 m_126 m_5 rfl (by simp [Value.category]) (by decide) (by decide) dX5_drop_19 ?_
  refine go_eq (pc' := 22) (st' := [.int r1]) (M' := M2) (lv' := [(0, .ref v0), (1, .int v1)]) ?_ rfl rfl rfl rfl
  refine go_if_eq (t := 27) hC dX5_drop_22 (by decide) (fun c5 => ?_) (fun c5 => ?_)
  · have h := os_t h c5
    refine go_aload_n hC dX5_drop_27 rfl 0 rfl ?_
    obtain ⟨h6, h⟩ := os_1 h
    obtain ⟨b7, h8, h⟩ := os_b h
    refine go_getR 22 hC h6 rfl rfl h8 (C := RX5) (T := TX5) (N := 28) rfl inlX5 (by decide) m_96 (Or.inl rfl) dX5_drop_28 ?_
    refine go_iconst hC dX5_drop_31 (v := (4 : Int32)) (by decide +kernel) ?_
    refine go_iload_n hC dX5_drop_32 rfl 1 rfl ?_
    refine go_imul hC dX5_drop_33 ?_
    obtain ⟨h9, h⟩ := os_1 h
    refine go_iald hC h9.1 h9.2 dX5_drop_34 ?_
    refine go_istore_n (lv' := [(2, .int (mV M2 b7 (((4 : Int32) * v1)).toNatClampNeg)), (0, .ref v0), (1, .int v1)]) hC dX5_drop_35 rfl (by decide) rfl ?_
    refine go_aload_n hC dX5_drop_36 rfl 1 rfl ?_
    refine go_iload_n hC dX5_drop_37 rfl 2 rfl ?_
    obtain ⟨h13, h⟩ := os_1 h
    obtain ⟨r10, M11, h12, h⟩ := os_c h
    refine go_callV (bytes := cX5_takesOut) (maxL := 3) (ret := none) (n := 1) (As := [.int v1]) (st := []) hE (c_X5_takesOut K.2.1 h12) (by unfold okY; decide +kernel) rfl h13 rfl (C := RX5) (T := TX5) (N := 28) rfl m_615 m_612 m_613 m_614 m_5 rfl (by simp [Value.category]) (by decide) (by decide) dX5_drop_38 ?_
    refine go_eq (pc' := 41) (st' := []) (M' := M11) (lv' := [(2, .int (mV M2 b7 (((4 : Int32) * v1)).toNatClampNeg)), (0, .ref v0), (1, .int v1)]) ?_ rfl rfl rfl rfl
    refine go_iload_n hC dX5_drop_41 rfl 0 rfl ?_
    cases h
    exact go_iret hE dX5_drop_42
  · have h := os_f h c5
    refine go_iconst hC dX5_drop_25 (v := (0 : Int32)) (by decide +kernel) ?_
    cases h
    exact go_iret hE dX5_drop_26
def fX5_drop_13 (x9 : Cx) (k9 : Nat) (v0 : Nat) (v1 : Int32) (s0 : Nat) (M : Mm) : Option (Int32 × Mm) :=
  fX5_drop_18 x9 k9 v0 v1 s0 (1 : Int32) M
set_option maxRecDepth 100000 in
set_option maxHeartbeats 4000000 in
theorem tX5_drop_13 {x9 : Cx} {K : Ct} {k9 : Nat} {M0 M9 : Mm} {r9 : Int32} (hE : Ce x9 K RX5 cX5_drop 3 (some .int) 1 22 "drop" M0) (v0 : Nat) (v1 : Int32) (s0 : Nat) (M : Mm) (h : fX5_drop_13 x9 k9 v0 v1 s0 M = some (r9, M9)) : Go x9 K 3 (Qf x9 K M0 (some (.int r9)) M9) 13 [(0, .ref v0), (1, .int v1)] [.ref s0] M := by
  have hC := hE.1
  have hnm := hE.2.2.2.2.2.2.2.1
  unfold fX5_drop_13 at h
  refine go_iconst hC dX5_drop_13 (v := (1 : Int32)) (by decide +kernel) ?_
  refine go_goto (t := 18) hC dX5_drop_14 (by decide) ?_
  exact tX5_drop_18 hE _ _ _ _ _ h
def fX5_drop (x9 : Cx) (k9 : Nat) (v0 : Nat) (v1 : Int32) (M : Mm) : Option (Int32 × Mm) :=
  if v1 < 0 then fX5_drop_13 x9 k9 v0 v1 v0 M else if mK M v0 = 6 then if v1 < (mV M v0 23) then fX5_drop_18 x9 k9 v0 v1 v0 (0 : Int32) M else fX5_drop_13 x9 k9 v0 v1 v0 M else none
set_option maxRecDepth 100000 in
set_option maxHeartbeats 4000000 in
theorem tX5_drop_0 {x9 : Cx} {K : Ct} {k9 : Nat} {M0 M9 : Mm} {r9 : Int32} (hE : Ce x9 K RX5 cX5_drop 3 (some .int) 1 22 "drop" M0) (v0 : Nat) (v1 : Int32) (M : Mm) (h : fX5_drop x9 k9 v0 v1 M = some (r9, M9)) : Go x9 K 3 (Qf x9 K M0 (some (.int r9)) M9) 0 [(0, .ref v0), (1, .int v1)] [] M := by
  have hC := hE.1
  have hnm := hE.2.2.2.2.2.2.2.1
  unfold fX5_drop at h
  refine go_aload_n hC dX5_drop_0 rfl 0 rfl ?_
  refine go_iload_n hC dX5_drop_1 rfl 1 rfl ?_
  refine go_if_lt (t := 13) hC dX5_drop_2 (by decide) (fun c1 => ?_) (fun c1 => ?_)
  · have h := os_t h c1
    exact tX5_drop_13 hE _ _ _ _ h
  · have h := os_f h c1
    refine go_iload_n hC dX5_drop_5 rfl 1 rfl ?_
    refine go_aload_n hC dX5_drop_6 rfl 0 rfl ?_
    obtain ⟨h2, h⟩ := os_1 h
    refine go_getV 23 hC h2 rfl rfl (C := RX5) (T := TX5) (N := 28) rfl inlX5 (by decide) m_104 (Or.inl rfl) dX5_drop_7 ?_
    refine go_icmp_lt (t := 17) hC dX5_drop_10 (by decide) (fun c3 => ?_) (fun c3 => ?_)
    · have h := os_t h c3
      refine go_iconst hC dX5_drop_17 (v := (0 : Int32)) (by decide +kernel) ?_
      exact tX5_drop_18 hE _ _ _ _ _ h
    · have h := os_f h c3
      exact tX5_drop_13 hE _ _ _ _ h
theorem c_X5_drop (l : Launch) {x9 : Cx} {k9 : Nat} {M M9 : Mm} {r9 : Int32} {v0 : Nat} {v1 : Int32} (h : fX5_drop x9 k9 v0 v1 M = some (r9, M9)) : Fn l x9 yX5_drop cX5_drop 3 (some .int) 1 22 [.ref v0, .int v1] M (some (.int r9)) M9 :=
  Fn.of (by decide +kernel) (Nat.le_of_ble_eq_true rfl) rfl (fun K _ hE => tX5_drop_0 hE _ _ _ h)
/-! X5_copy -/
def fX5_copy_41 (x9 : Cx) (k9 : Nat) : Nat → Nat → Int32 → Int32 → Mm → Option (Int32 × Mm)
  | 0, _, _, _, _ => none
  | n9 + 1, v0, v1, v2, M => if (4 : Int32) ≤ v2 then if mK M v0 = 6 then if mK M v0 = 6 then if (1 : Int32) = 0 ∨ (1 : Int32) = 1 then some ((1 : Int32), (sV M v0 23 ((mV M v0 23) + (1 : Int32)))) else none else none else none else if mK M v0 = 6 then ob1 (mP M v0 22) (fun b6 => if mK M v0 = 6 then if mK M v0 = 6 then ob1 (mP M v0 22) (fun b10 => if mK M b10 = 8 ∧ ¬ ((((4 : Int32) * v1) + v2) < 0 ∨ mN M b10 ≤ ((((4 : Int32) * v1) + v2)).toNatClampNeg) then if mK M b6 = 8 ∧ ¬ ((((4 : Int32) * (mV M v0 23)) + v2) < 0 ∨ mN M b6 ≤ ((((4 : Int32) * (mV M v0 23)) + v2)).toNatClampNeg) then lt1 (sV M b6 ((((4 : Int32) * (mV M v0 23)) + v2)).toNatClampNeg (mV M b10 ((((4 : Int32) * v1) + v2)).toNatClampNeg)) (fun M14 => fX5_copy_41 x9 k9 n9 v0 v1 (v2 + 1) M14) else none else none) else none else none) else none
set_option maxRecDepth 100000 in
set_option maxHeartbeats 4000000 in
theorem tX5_copy_41 {x9 : Cx} {K : Ct} {k9 : Nat} {M0 M9 : Mm} {r9 : Int32} (hE : Ce x9 K RX5 cX5_copy 3 (some .boolean) 1 22 "copy" M0) : ∀ (n9 : Nat) (v0 : Nat) (v1 : Int32) (v2 : Int32) (M : Mm), fX5_copy_41 x9 k9 n9 v0 v1 v2 M = some (r9, M9) → Go x9 K 3 (Qf x9 K M0 (some (.int r9)) M9) 41 [(0, .ref v0), (1, .int v1), (2, .int v2)] [] M := by
  have hC := hE.1
  have hnm := hE.2.2.2.2.2.2.2.1
  intro n9
  induction n9 with
  | zero => intro _ _ _ _ h; cases h
  | succ n9 ih =>
    intro v0 v1 v2 M h
    rw [fX5_copy_41] at h
    refine go_iload_n hC dX5_copy_41 rfl 2 rfl ?_
    refine go_iconst hC dX5_copy_42 (v := (4 : Int32)) (by decide +kernel) ?_
    refine go_icmp_ge (t := 75) hC dX5_copy_43 (by decide) (fun c1 => ?_) (fun c1 => ?_)
    · have h := os_t h c1
      refine go_aload_n hC dX5_copy_75 rfl 0 rfl ?_
      refine go_dup hC dX5_copy_76 rfl ?_
      obtain ⟨h2, h⟩ := os_1 h
      refine go_getV 23 hC h2 rfl rfl (C := RX5) (T := TX5) (N := 28) rfl inlX5 (by decide) m_104 (Or.inl rfl) dX5_copy_77 ?_
      refine go_iconst hC dX5_copy_80 (v := (1 : Int32)) (by decide +kernel) ?_
      refine go_iadd hC dX5_copy_81 ?_
      obtain ⟨h3, h⟩ := os_1 h
      refine go_putV 23 hC h3 rfl rfl (C := RX5) (T := TX5) (N := 28) rfl inlX5 tyX5 tyX5_ok nmX5 (by decide) m_104 (Or.inl rfl) (Or.inl rfl) (tyX5_ok 23 (by decide)) rfl rfl dX5_copy_82 ?_
      refine go_iconst hC dX5_copy_85 (v := (1 : Int32)) (by decide +kernel) ?_
      obtain ⟨h4, h⟩ := os_1 h
      cases h
      exact go_zret hE h4 dX5_copy_86
    · have h := os_f h c1
      refine go_aload_n hC dX5_copy_46 rfl 0 rfl ?_
      obtain ⟨h5, h⟩ := os_1 h
      obtain ⟨b6, h7, h⟩ := os_b h
      refine go_getR 22 hC h5 rfl rfl h7 (C := RX5) (T := TX5) (N := 28) rfl inlX5 (by decide) m_96 (Or.inl rfl) dX5_copy_47 ?_
      refine go_iconst hC dX5_copy_50 (v := (4 : Int32)) (by decide +kernel) ?_
      refine go_aload_n hC dX5_copy_51 rfl 0 rfl ?_
      obtain ⟨h8, h⟩ := os_1 h
      refine go_getV 23 hC h8 rfl rfl (C := RX5) (T := TX5) (N := 28) rfl inlX5 (by decide) m_104 (Or.inl rfl) dX5_copy_52 ?_
      refine go_imul hC dX5_copy_55 ?_
      refine go_iload_n hC dX5_copy_56 rfl 2 rfl ?_
      refine go_iadd hC dX5_copy_57 ?_
      refine go_aload_n hC dX5_copy_58 rfl 0 rfl ?_
      obtain ⟨h9, h⟩ := os_1 h
      obtain ⟨b10, h11, h⟩ := os_b h
      refine go_getR 22 hC h9 rfl rfl h11 (C := RX5) (T := TX5) (N := 28) rfl inlX5 (by decide) m_96 (Or.inl rfl) dX5_copy_59 ?_
      refine go_iconst hC dX5_copy_62 (v := (4 : Int32)) (by decide +kernel) ?_
      refine go_iload_n hC dX5_copy_63 rfl 1 rfl ?_
      refine go_imul hC dX5_copy_64 ?_
      refine go_iload_n hC dX5_copy_65 rfl 2 rfl ?_
      refine go_iadd hC dX5_copy_66 ?_
      obtain ⟨h12, h⟩ := os_1 h
      refine go_iald hC h12.1 h12.2 dX5_copy_67 ?_
      obtain ⟨h13, h⟩ := os_1 h
      refine go_iast hC h13.1 h13.2 dX5_copy_68 ?_
      obtain ⟨M14, e15, h⟩ := os_l h
      refine go_eq (pc' := 69) (st' := []) (M' := M14) (lv' := [(0, .ref v0), (1, .int v1), (2, .int v2)]) ?_ rfl rfl rfl e15
      refine go_iinc (q := 2) (v := (v2 + 1)) (lv' := [(2, .int (v2 + 1)), (0, .ref v0), (1, .int v1)]) hC dX5_copy_69 rfl rfl (by decide) rfl ?_
      refine go_goto (t := 41) hC dX5_copy_72 (by decide) ?_
      refine go_sub (lv' := [(0, .ref v0), (1, .int v1), (2, .int (v2 + 1))]) [1, 2, 0] rfl ?_
      exact ih _ _ _ _ h
def fX5_copy_18 (x9 : Cx) (k9 : Nat) (v0 : Nat) (v1 : Int32) (s0 : Nat) (s1 : Int32) (M : Mm) : Option (Int32 × Mm) :=
  if mK M s0 = 6 then ob2 (fX5_fails x9 k9 s0 s1 (1 : Int32) M) (fun r1 M2 => if r1 = 0 then if mK M2 v0 = 6 then if (mV M2 v0 23) = (300 : Int32) then if (0 : Int32) = 0 ∨ (0 : Int32) = 1 then some ((0 : Int32), M2) else none else fX5_copy_41 x9 k9 k9 v0 v1 (0 : Int32) M2 else none else if (0 : Int32) = 0 ∨ (0 : Int32) = 1 then some ((0 : Int32), M2) else none) else none
set_option maxRecDepth 100000 in
set_option maxHeartbeats 4000000 in
theorem tX5_copy_18 {x9 : Cx} {K : Ct} {k9 : Nat} {M0 M9 : Mm} {r9 : Int32} (hE : Ce x9 K RX5 cX5_copy 3 (some .boolean) 1 22 "copy" M0) (v0 : Nat) (v1 : Int32) (s0 : Nat) (s1 : Int32) (M : Mm) (h : fX5_copy_18 x9 k9 v0 v1 s0 s1 M = some (r9, M9)) : Go x9 K 3 (Qf x9 K M0 (some (.int r9)) M9) 18 [(0, .ref v0), (1, .int v1)] [.int s1, .ref s0] M := by
  have hC := hE.1
  have hnm := hE.2.2.2.2.2.2.2.1
  unfold fX5_copy_18 at h
  refine go_iconst hC dX5_copy_18 (v := (1 : Int32)) (by decide +kernel) ?_
  obtain ⟨h4, h⟩ := os_1 h
  obtain ⟨r1, M2, h3, h⟩ := os_c h
  refine go_callV (bytes := cX5_fails) (maxL := 3) (ret := (some .boolean)) (n := 2) (As := [.int s1, .int (1 : Int32)]) (st := []) hE (c_X5_fails K.2.1 h3) (by unfold okY; decide +kernel) rfl h4 rfl (C := RX5) (T := TX5) (N := 28) rfl m_127 m_124 m_125 m_126 m_5 rfl (by simp [Value.category]) (by decide) (by decide) dX5_copy_19 ?_
  refine go_eq (pc' := 22) (st' := [.int r1]) (M' := M2) (lv' := [(0, .ref v0), (1, .int v1)]) ?_ rfl rfl rfl rfl
  refine go_if_eq (t := 27) hC dX5_copy_22 (by decide) (fun c5 => ?_) (fun c5 => ?_)
  · have h := os_t h c5
    refine go_aload_n hC dX5_copy_27 rfl 0 rfl ?_
    obtain ⟨h6, h⟩ := os_1 h
    refine go_getV 23 hC h6 rfl rfl (C := RX5) (T := TX5) (N := 28) rfl inlX5 (by decide) m_104 (Or.inl rfl) dX5_copy_28 ?_
    refine go_sipush hC dX5_copy_31 (v := (300 : Int32)) (by decide +kernel) ?_
    refine go_icmp_ne (t := 39) hC dX5_copy_34 (by decide) (fun c7 => ?_) (fun c7 => ?_)
    · have h := os_f h c7
      refine go_iconst hC dX5_copy_39 (v := (0 : Int32)) (by decide +kernel) ?_
      refine go_istore_n (lv' := [(2, .int (0 : Int32)), (0, .ref v0), (1, .int v1)]) hC dX5_copy_40 rfl (by decide) rfl ?_
      refine go_sub (lv' := [(0, .ref v0), (1, .int v1), (2, .int (0 : Int32))]) [1, 2, 0] rfl ?_
      exact tX5_copy_41 hE k9 _ _ _ _ h
    · have h := os_t h c7
      refine go_iconst hC dX5_copy_37 (v := (0 : Int32)) (by decide +kernel) ?_
      obtain ⟨h8, h⟩ := os_1 h
      cases h
      exact go_zret hE h8 dX5_copy_38
  · have h := os_f h c5
    refine go_iconst hC dX5_copy_25 (v := (0 : Int32)) (by decide +kernel) ?_
    obtain ⟨h9, h⟩ := os_1 h
    cases h
    exact go_zret hE h9 dX5_copy_26
def fX5_copy_13 (x9 : Cx) (k9 : Nat) (v0 : Nat) (v1 : Int32) (s0 : Nat) (M : Mm) : Option (Int32 × Mm) :=
  fX5_copy_18 x9 k9 v0 v1 s0 (1 : Int32) M
set_option maxRecDepth 100000 in
set_option maxHeartbeats 4000000 in
theorem tX5_copy_13 {x9 : Cx} {K : Ct} {k9 : Nat} {M0 M9 : Mm} {r9 : Int32} (hE : Ce x9 K RX5 cX5_copy 3 (some .boolean) 1 22 "copy" M0) (v0 : Nat) (v1 : Int32) (s0 : Nat) (M : Mm) (h : fX5_copy_13 x9 k9 v0 v1 s0 M = some (r9, M9)) : Go x9 K 3 (Qf x9 K M0 (some (.int r9)) M9) 13 [(0, .ref v0), (1, .int v1)] [.ref s0] M := by
  have hC := hE.1
  have hnm := hE.2.2.2.2.2.2.2.1
  unfold fX5_copy_13 at h
  refine go_iconst hC dX5_copy_13 (v := (1 : Int32)) (by decide +kernel) ?_
  refine go_goto (t := 18) hC dX5_copy_14 (by decide) ?_
  exact tX5_copy_18 hE _ _ _ _ _ h
def fX5_copy (x9 : Cx) (k9 : Nat) (v0 : Nat) (v1 : Int32) (M : Mm) : Option (Int32 × Mm) :=
  if v1 < 0 then fX5_copy_13 x9 k9 v0 v1 v0 M else if mK M v0 = 6 then if v1 < (mV M v0 23) then fX5_copy_18 x9 k9 v0 v1 v0 (0 : Int32) M else fX5_copy_13 x9 k9 v0 v1 v0 M else none
set_option maxRecDepth 100000 in
set_option maxHeartbeats 4000000 in
theorem tX5_copy_0 {x9 : Cx} {K : Ct} {k9 : Nat} {M0 M9 : Mm} {r9 : Int32} (hE : Ce x9 K RX5 cX5_copy 3 (some .boolean) 1 22 "copy" M0) (v0 : Nat) (v1 : Int32) (M : Mm) (h : fX5_copy x9 k9 v0 v1 M = some (r9, M9)) : Go x9 K 3 (Qf x9 K M0 (some (.int r9)) M9) 0 [(0, .ref v0), (1, .int v1)] [] M := by
  have hC := hE.1
  have hnm := hE.2.2.2.2.2.2.2.1
  unfold fX5_copy at h
  refine go_aload_n hC dX5_copy_0 rfl 0 rfl ?_
  refine go_iload_n hC dX5_copy_1 rfl 1 rfl ?_
  refine go_if_lt (t := 13) hC dX5_copy_2 (by decide) (fun c1 => ?_) (fun c1 => ?_)
  · have h := os_t h c1
    exact tX5_copy_13 hE _ _ _ _ h
  · have h := os_f h c1
    refine go_iload_n hC dX5_copy_5 rfl 1 rfl ?_
    refine go_aload_n hC dX5_copy_6 rfl 0 rfl ?_
    obtain ⟨h2, h⟩ := os_1 h
    refine go_getV 23 hC h2 rfl rfl (C := RX5) (T := TX5) (N := 28) rfl inlX5 (by decide) m_104 (Or.inl rfl) dX5_copy_7 ?_
    refine go_icmp_lt (t := 17) hC dX5_copy_10 (by decide) (fun c3 => ?_) (fun c3 => ?_)
    · have h := os_t h c3
      refine go_iconst hC dX5_copy_17 (v := (0 : Int32)) (by decide +kernel) ?_
      exact tX5_copy_18 hE _ _ _ _ _ h
    · have h := os_f h c3
      exact tX5_copy_13 hE _ _ _ _ h
theorem c_X5_copy (l : Launch) {x9 : Cx} {k9 : Nat} {M M9 : Mm} {r9 : Int32} {v0 : Nat} {v1 : Int32} (h : fX5_copy x9 k9 v0 v1 M = some (r9, M9)) : Fn l x9 yX5_copy cX5_copy 3 (some .boolean) 1 22 [.ref v0, .int v1] M (some (.int r9)) M9 :=
  Fn.of (by decide +kernel) (Nat.le_of_ble_eq_true rfl) rfl (fun K _ hE => tX5_copy_0 hE _ _ _ h)
