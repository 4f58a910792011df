/-! L_open -/
def fL_open (x9 : Cx) (k9 : Nat) (v0 : Nat) (v1 : Int32) (M : Mm) : Option (Int32 × Mm) :=
  if mK M v0 = 5 then obH (fX4_open x9 k9 v0 v1 M) (fun r1 M2 => some ((0 : Int32), M2)) (fun c5 M2 => if mX M2 + 1 ≤ xC x9 ∧ mS M2 + 6 ≤ xL x9 then if c5 = 1 then some ((1 : Int32), (sX M2 (mX M2 + 1) (mS M2 + 6))) else none else none) else none
set_option maxRecDepth 100000 in
set_option maxHeartbeats 4000000 in
theorem tL_open_0 {x9 : Cx} {K : Ct} {k9 : Nat} {M0 M9 : Mm} {r9 : Int32} (hX : CeH x9 K RL cL_open 3 (some .int) [(0, 5, 8, 13)] 8 131 "open" M0) (v0 : Nat) (v1 : Int32) (M : Mm) (h : fL_open x9 k9 v0 v1 M = some (r9, M9)) : Go x9 K 3 (Qf x9 K M0 (some (.int r9)) M9) 0 [(0, .ref v0), (1, .int v1)] [] M := by
  have hE := hX.1
  have hC := hE.1
  unfold fL_open at h
  refine go_aload_n hC dL_open_0 rfl 0 rfl ?_
  refine go_iload_n hC dL_open_1 rfl 1 rfl ?_
  obtain ⟨h4, h⟩ := os_1 h
  rcases os_H h with ⟨r1, M2, h3, h⟩ | ⟨c5, M2, h3, h⟩
  · refine go_callV (bytes := cX4_open) (maxL := 2) (ret := none) (n := 1) (As := [.int v1]) (st := []) hE (c_X4_open K.2.1 h3) (by unfold okY; decide +kernel) rfl h4 rfl (C := RX4) (T := TX4) (N := 7) rfl m_114 m_111 m_112 m_113 m_2 rfl (by simp [Value.category]) (by decide) (by decide) dL_open_2 ?_
    refine go_eq (pc' := 5) (st' := []) (M' := M2) (lv' := [(0, .ref v0), (1, .int v1)]) ?_ rfl rfl rfl rfl
    refine go_goto (t := 11) hC dL_open_5 (by decide) ?_
    refine go_iconst hC dL_open_11 (v := (0 : Int32)) (by decide +kernel) ?_
    cases h
    exact go_iret hE dL_open_12
  · obtain ⟨h6, h⟩ := os_1 h
    by_cases e7 : c5 = 1
    · have h := os_t h e7
      subst e7
      refine go_callVH (pre := []) (en := ⟨0, 5, 8, 13⟩) (suf := []) (hpc := 8) (bytes := cX4_open) (maxL := 2) (ret := none) (n := 1) (As := [.int v1]) (st := []) hX (cX_X4_open K.2.1 hX.2.2 h3) (by unfold okY; decide +kernel) rfl h4 rfl (C := RX4) (T := TX4) (N := 7) rfl m_114 m_111 m_112 m_113 m_2 rfl (by simp [Value.category]) (by decide) (by decide) dL_open_2 rfl (fun z hz => absurd hz List.not_mem_nil) (by decide) (by decide) m_110 (by simp [cst, exN]) rfl h6 (fun q9 => ?_)
      refine go_astore_n (lv' := [(2, .ref q9), (0, .ref v0), (1, .int v1)]) hC dL_open_8 rfl (by decide) rfl ?_
      refine go_iconst hC dL_open_9 (v := (1 : Int32)) (by decide +kernel) ?_
      cases h
      exact go_iret hE dL_open_10
    have h := os_f h e7
    cases h
theorem c_L_open (l : Launch) (hl : l.stackTraces = false) {x9 : Cx} {k9 : Nat} {M M9 : Mm} {r9 : Int32} {v0 : Nat} {v1 : Int32} (h : fL_open x9 k9 v0 v1 M = some (r9, M9)) : FnH l x9 yL_open cL_open 3 (some .int) [(0, 5, 8, 13)] 8 131 [.ref v0, .int v1] M (some (.int r9)) M9 :=
  FnH.of hl (by decide +kernel) (Nat.le_of_ble_eq_true rfl) rfl (fun K _ hX => tL_open_0 hX _ _ _ h)
/-! L_begin -/
def fL_begin (x9 : Cx) (k9 : Nat) (v0 : Nat) (v1 : Int32) (v2 : Nat) (M : Mm) : Option (Int32 × Mm) :=
  if mK M v0 = 5 then obH (fX4_begin x9 k9 v0 v1 M) (fun r1 M2 => if mK M2 v2 = 12 ∧ ¬ ((0 : Int32) < 0 ∨ mN M2 v2 ≤ ((0 : Int32)).toNatClampNeg) then some ((0 : Int32), (sJ M2 v2 ((0 : Int32)).toNatClampNeg (r1).toInt64)) else none) (fun c5 M2 => if mX M2 + 1 ≤ xC x9 ∧ mS M2 + 6 ≤ xL x9 then if c5 = 1 then some ((1 : Int32), (sX M2 (mX M2 + 1) (mS M2 + 6))) else if c5 = 2 then some ((2 : Int32), (sX M2 (mX M2 + 1) (mS M2 + 6))) else none else none) else none
set_option maxRecDepth 100000 in
set_option maxHeartbeats 4000000 in
theorem tL_begin_0 {x9 : Cx} {K : Ct} {k9 : Nat} {M0 M9 : Mm} {r9 : Int32} (hX : CeH x9 K RL cL_begin 4 (some .int) [(0, 9, 12, 13), (0, 9, 15, 19)] 9 192 "begin" M0) (v0 : Nat) (v1 : Int32) (v2 : Nat) (M : Mm) (h : fL_begin x9 k9 v0 v1 v2 M = some (r9, M9)) : Go x9 K 4 (Qf x9 K M0 (some (.int r9)) M9) 0 [(0, .ref v0), (1, .int v1), (2, .ref v2)] [] M := by
  have hE := hX.1
  have hC := hE.1
  unfold fL_begin at h
  refine go_aload_n hC dL_begin_0 rfl 2 rfl ?_
  refine go_iconst hC dL_begin_1 (v := (0 : Int32)) (by decide +kernel) ?_
  refine go_aload_n hC dL_begin_2 rfl 0 rfl ?_
  refine go_iload_n hC dL_begin_3 rfl 1 rfl ?_
  obtain ⟨h4, h⟩ := os_1 h
  rcases os_H h with ⟨r1, M2, h3, h⟩ | ⟨c5, M2, h3, h⟩
  · refine go_callV (bytes := cX4_begin) (maxL := 2) (ret := (some .int)) (n := 1) (As := [.int v1]) (st := [.int (0 : Int32), .ref v2]) hE (c_X4_begin K.2.1 h3) (by unfold okY; decide +kernel) rfl h4 rfl (C := RX4) (T := TX4) (N := 7) rfl m_140 m_137 m_138 m_139 m_2 rfl (by simp [Value.category]) (by decide) (by decide) dL_begin_4 ?_
    refine go_eq (pc' := 7) (st' := [.int r1, .int (0 : Int32), .ref v2]) (M' := M2) (lv' := [(0, .ref v0), (1, .int v1), (2, .ref v2)]) ?_ rfl rfl rfl rfl
    refine go_i2l hC dL_begin_7 ?_
    obtain ⟨h7, h⟩ := os_1 h
    refine go_last hC h7.1 h7.2 dL_begin_8 ?_
    refine go_goto (t := 18) hC dL_begin_9 (by decide) ?_
    refine go_iconst hC dL_begin_18 (v := (0 : Int32)) (by decide +kernel) ?_
    cases h
    exact go_iret hE dL_begin_19
  · obtain ⟨h6, h⟩ := os_1 h
    by_cases e8 : c5 = 1
    · have h := os_t h e8
      subst e8
      refine go_callVH (pre := []) (en := ⟨0, 9, 12, 13⟩) (suf := [⟨0, 9, 15, 19⟩]) (hpc := 12) (bytes := cX4_begin) (maxL := 2) (ret := (some .int)) (n := 1) (As := [.int v1]) (st := [.int (0 : Int32), .ref v2]) hX (cX_X4_begin K.2.1 hX.2.2 h3) (by unfold okY; decide +kernel) rfl h4 rfl (C := RX4) (T := TX4) (N := 7) rfl m_140 m_137 m_138 m_139 m_2 rfl (by simp [Value.category]) (by decide) (by decide) dL_begin_4 rfl (fun z hz => absurd hz List.not_mem_nil) (by decide) (by decide) m_110 (by simp [cst, exN]) rfl h6 (fun q9 => ?_)
      refine go_astore_n (lv' := [(3, .ref q9), (0, .ref v0), (1, .int v1), (2, .ref v2)]) hC dL_begin_12 rfl (by decide) rfl ?_
      refine go_iconst hC dL_begin_13 (v := (1 : Int32)) (by decide +kernel) ?_
      cases h
      exact go_iret hE dL_begin_14
    have h := os_f h e8
    by_cases e9 : c5 = 2
    · have h := os_t h e9
      subst e9
      refine go_callVH (pre := [⟨0, 9, 12, 13⟩]) (en := ⟨0, 9, 15, 19⟩) (suf := []) (hpc := 15) (bytes := cX4_begin) (maxL := 2) (ret := (some .int)) (n := 1) (As := [.int v1]) (st := [.int (0 : Int32), .ref v2]) hX (cX_X4_begin K.2.1 hX.2.2 h3) (by unfold okY; decide +kernel) rfl h4 rfl (C := RX4) (T := TX4) (N := 7) rfl m_140 m_137 m_138 m_139 m_2 rfl (by simp [Value.category]) (by decide) (by decide) dL_begin_4 rfl (fun z hz => by rcases List.mem_singleton.mp hz with rfl; exact ⟨by decide, by decide, _, m_110, fun s H h => h.2.2.2.2.2.2.2.2.2.2.2.2.1⟩) (by decide) (by decide) m_136 (by simp [cst, exN]) rfl h6 (fun q9 => ?_)
      refine go_astore_n (lv' := [(3, .ref q9), (0, .ref v0), (1, .int v1), (2, .ref v2)]) hC dL_begin_15 rfl (by decide) rfl ?_
      refine go_iconst hC dL_begin_16 (v := (2 : Int32)) (by decide +kernel) ?_
      cases h
      exact go_iret hE dL_begin_17
    have h := os_f h e9
    cases h
theorem c_L_begin (l : Launch) (hl : l.stackTraces = false) {x9 : Cx} {k9 : Nat} {M M9 : Mm} {r9 : Int32} {v0 : Nat} {v1 : Int32} {v2 : Nat} (h : fL_begin x9 k9 v0 v1 v2 M = some (r9, M9)) : FnH l x9 yL_begin cL_begin 4 (some .int) [(0, 9, 12, 13), (0, 9, 15, 19)] 9 192 [.ref v0, .int v1, .ref v2] M (some (.int r9)) M9 :=
  FnH.of hl (by decide +kernel) (Nat.le_of_ble_eq_true rfl) rfl (fun K _ hX => tL_begin_0 hX _ _ _ _ h)
/-! L_read -/
def fL_read (x9 : Cx) (k9 : Nat) (v0 : Nat) (v1 : Int32) (v2 : Int32) (v3 : Nat) (M : Mm) : Option (Int32 × Mm) :=
  if mK M v0 = 5 then obH (fX4_read x9 k9 v0 v1 v2 M) (fun r1 M2 => if mK M2 v3 = 12 ∧ ¬ ((0 : Int32) < 0 ∨ mN M2 v3 ≤ ((0 : Int32)).toNatClampNeg) then some ((0 : Int32), (sJ M2 v3 ((0 : Int32)).toNatClampNeg (r1).toInt64)) else none) (fun c5 M2 => if mX M2 + 1 ≤ xC x9 ∧ mS M2 + 6 ≤ xL x9 then if c5 = 1 then some ((1 : Int32), (sX M2 (mX M2 + 1) (mS M2 + 6))) else if c5 = 2 then some ((2 : Int32), (sX M2 (mX M2 + 1) (mS M2 + 6))) else none else none) else none
set_option maxRecDepth 100000 in
set_option maxHeartbeats 4000000 in
theorem tL_read_0 {x9 : Cx} {K : Ct} {k9 : Nat} {M0 M9 : Mm} {r9 : Int32} (hX : CeH x9 K RL cL_read 5 (some .int) [(0, 10, 13, 13), (0, 10, 17, 19)] 9 154 "read" M0) (v0 : Nat) (v1 : Int32) (v2 : Int32) (v3 : Nat) (M : Mm) (h : fL_read x9 k9 v0 v1 v2 v3 M = some (r9, M9)) : Go x9 K 5 (Qf x9 K M0 (some (.int r9)) M9) 0 [(0, .ref v0), (1, .int v1), (2, .int v2), (3, .ref v3)] [] M := by
  have hE := hX.1
  have hC := hE.1
  unfold fL_read at h
  refine go_aload_n hC dL_read_0 rfl 3 rfl ?_
  refine go_iconst hC dL_read_1 (v := (0 : Int32)) (by decide +kernel) ?_
  refine go_aload_n hC dL_read_2 rfl 0 rfl ?_
  refine go_iload_n hC dL_read_3 rfl 1 rfl ?_
  refine go_iload_n hC dL_read_4 rfl 2 rfl ?_
  obtain ⟨h4, h⟩ := os_1 h
  rcases os_H h with ⟨r1, M2, h3, h⟩ | ⟨c5, M2, h3, h⟩
  · refine go_callV (bytes := cX4_read) (maxL := 4) (ret := (some .int)) (n := 2) (As := [.int v1, .int v2]) (st := [.int (0 : Int32), .ref v3]) hE (c_X4_read K.2.1 h3) (by unfold okY; decide +kernel) rfl h4 rfl (C := RX4) (T := TX4) (N := 7) rfl m_263 m_260 m_261 m_262 m_2 rfl (by simp [Value.category]) (by decide) (by decide) dL_read_5 ?_
    refine go_eq (pc' := 8) (st' := [.int r1, .int (0 : Int32), .ref v3]) (M' := M2) (lv' := [(0, .ref v0), (1, .int v1), (2, .int v2), (3, .ref v3)]) ?_ rfl rfl rfl rfl
    refine go_i2l hC dL_read_8 ?_
    obtain ⟨h7, h⟩ := os_1 h
    refine go_last hC h7.1 h7.2 dL_read_9 ?_
    refine go_goto (t := 21) hC dL_read_10 (by decide) ?_
    refine go_iconst hC dL_read_21 (v := (0 : Int32)) (by decide +kernel) ?_
    cases h
    exact go_iret hE dL_read_22
  · obtain ⟨h6, h⟩ := os_1 h
    by_cases e8 : c5 = 1
    · have h := os_t h e8
      subst e8
      refine go_callVH (pre := []) (en := ⟨0, 10, 13, 13⟩) (suf := [⟨0, 10, 17, 19⟩]) (hpc := 13) (bytes := cX4_read) (maxL := 4) (ret := (some .int)) (n := 2) (As := [.int v1, .int v2]) (st := [.int (0 : Int32), .ref v3]) hX (cX_X4_read K.2.1 hX.2.2 h3) (by unfold okY; decide +kernel) rfl h4 rfl (C := RX4) (T := TX4) (N := 7) rfl m_263 m_260 m_261 m_262 m_2 rfl (by simp [Value.category]) (by decide) (by decide) dL_read_5 rfl (fun z hz => absurd hz List.not_mem_nil) (by decide) (by decide) m_110 (by simp [cst, exN]) rfl h6 (fun q9 => ?_)
      refine go_astore (lv' := [(4, .ref q9), (0, .ref v0), (1, .int v1), (2, .int v2), (3, .ref v3)]) hC dL_read_13 (by decide) rfl ?_
      refine go_iconst hC dL_read_15 (v := (1 : Int32)) (by decide +kernel) ?_
      cases h
      exact go_iret hE dL_read_16
    have h := os_f h e8
    by_cases e9 : c5 = 2
    · have h := os_t h e9
      subst e9
      refine go_callVH (pre := [⟨0, 10, 13, 13⟩]) (en := ⟨0, 10, 17, 19⟩) (suf := []) (hpc := 17) (bytes := cX4_read) (maxL := 4) (ret := (some .int)) (n := 2) (As := [.int v1, .int v2]) (st := [.int (0 : Int32), .ref v3]) hX (cX_X4_read K.2.1 hX.2.2 h3) (by unfold okY; decide +kernel) rfl h4 rfl (C := RX4) (T := TX4) (N := 7) rfl m_263 m_260 m_261 m_262 m_2 rfl (by simp [Value.category]) (by decide) (by decide) dL_read_5 rfl (fun z hz => by rcases List.mem_singleton.mp hz with rfl; exact ⟨by decide, by decide, _, m_110, fun s H h => h.2.2.2.2.2.2.2.2.2.2.2.2.1⟩) (by decide) (by decide) m_136 (by simp [cst, exN]) rfl h6 (fun q9 => ?_)
      refine go_astore (lv' := [(4, .ref q9), (0, .ref v0), (1, .int v1), (2, .int v2), (3, .ref v3)]) hC dL_read_17 (by decide) rfl ?_
      refine go_iconst hC dL_read_19 (v := (2 : Int32)) (by decide +kernel) ?_
      cases h
      exact go_iret hE dL_read_20
    have h := os_f h e9
    cases h
theorem c_L_read (l : Launch) (hl : l.stackTraces = false) {x9 : Cx} {k9 : Nat} {M M9 : Mm} {r9 : Int32} {v0 : Nat} {v1 : Int32} {v2 : Int32} {v3 : Nat} (h : fL_read x9 k9 v0 v1 v2 v3 M = some (r9, M9)) : FnH l x9 yL_read cL_read 5 (some .int) [(0, 10, 13, 13), (0, 10, 17, 19)] 9 154 [.ref v0, .int v1, .int v2, .ref v3] M (some (.int r9)) M9 :=
  FnH.of hl (by decide +kernel) (Nat.le_of_ble_eq_true rfl) rfl (fun K _ hX => tL_read_0 hX _ _ _ _ _ h)
/-! L_write -/
def fL_write (x9 : Cx) (k9 : Nat) (v0 : Nat) (v1 : Int32) (v2 : Int32) (v3 : Int32) (v4 : Nat) (M : Mm) : Option (Int32 × Mm) :=
  if mK M v0 = 5 then obH (fX4_write x9 k9 v0 v1 v2 v3 M) (fun r1 M2 => if mK M2 v4 = 12 ∧ ¬ ((0 : Int32) < 0 ∨ mN M2 v4 ≤ ((0 : Int32)).toNatClampNeg) then some ((0 : Int32), (sJ M2 v4 ((0 : Int32)).toNatClampNeg (r1).toInt64)) else none) (fun c5 M2 => if mX M2 + 1 ≤ xC x9 ∧ mS M2 + 6 ≤ xL x9 then if c5 = 1 then some ((1 : Int32), (sX M2 (mX M2 + 1) (mS M2 + 6))) else if c5 = 2 then some ((2 : Int32), (sX M2 (mX M2 + 1) (mS M2 + 6))) else none else none) else none
set_option maxRecDepth 100000 in
set_option maxHeartbeats 4000000 in
theorem tL_write_0 {x9 : Cx} {K : Ct} {k9 : Nat} {M0 M9 : Mm} {r9 : Int32} (hX : CeH x9 K RL cL_write 6 (some .int) [(0, 12, 15, 13), (0, 12, 19, 19)] 9 155 "write" M0) (v0 : Nat) (v1 : Int32) (v2 : Int32) (v3 : Int32) (v4 : Nat) (M : Mm) (h : fL_write x9 k9 v0 v1 v2 v3 v4 M = some (r9, M9)) : Go x9 K 6 (Qf x9 K M0 (some (.int r9)) M9) 0 [(0, .ref v0), (1, .int v1), (2, .int v2), (3, .int v3), (4, .ref v4)] [] M := by
  have hE := hX.1
  have hC := hE.1
  unfold fL_write at h
  refine go_aload hC dL_write_0 4 rfl ?_
  refine go_iconst hC dL_write_2 (v := (0 : Int32)) (by decide +kernel) ?_
  refine go_aload_n hC dL_write_3 rfl 0 rfl ?_
  refine go_iload_n hC dL_write_4 rfl 1 rfl ?_
  refine go_iload_n hC dL_write_5 rfl 2 rfl ?_
  refine go_iload_n hC dL_write_6 rfl 3 rfl ?_
  obtain ⟨h4, h⟩ := os_1 h
  rcases os_H h with ⟨r1, M2, h3, h⟩ | ⟨c5, M2, h3, h⟩
  · refine go_callV (bytes := cX4_write) (maxL := 5) (ret := (some .int)) (n := 3) (As := [.int v1, .int v2, .int v3]) (st := [.int (0 : Int32), .ref v4]) hE (c_X4_write K.2.1 h3) (by unfold okY; decide +kernel) rfl h4 rfl (C := RX4) (T := TX4) (N := 7) rfl m_319 m_316 m_317 m_318 m_2 rfl (by simp [Value.category]) (by decide) (by decide) dL_write_7 ?_
    refine go_eq (pc' := 10) (st' := [.int r1, .int (0 : Int32), .ref v4]) (M' := M2) (lv' := [(0, .ref v0), (1, .int v1), (2, .int v2), (3, .int v3), (4, .ref v4)]) ?_ rfl rfl rfl rfl
    refine go_i2l hC dL_write_10 ?_
    obtain ⟨h7, h⟩ := os_1 h
    refine go_last hC h7.1 h7.2 dL_write_11 ?_
    refine go_goto (t := 23) hC dL_write_12 (by decide) ?_
    refine go_iconst hC dL_write_23 (v := (0 : Int32)) (by decide +kernel) ?_
    cases h
    exact go_iret hE dL_write_24
  · obtain ⟨h6, h⟩ := os_1 h
    by_cases e8 : c5 = 1
    · have h := os_t h e8
      subst e8
      refine go_callVH (pre := []) (en := ⟨0, 12, 15, 13⟩) (suf := [⟨0, 12, 19, 19⟩]) (hpc := 15) (bytes := cX4_write) (maxL := 5) (ret := (some .int)) (n := 3) (As := [.int v1, .int v2, .int v3]) (st := [.int (0 : Int32), .ref v4]) hX (cX_X4_write K.2.1 hX.2.2 h3) (by unfold okY; decide +kernel) rfl h4 rfl (C := RX4) (T := TX4) (N := 7) rfl m_319 m_316 m_317 m_318 m_2 rfl (by simp [Value.category]) (by decide) (by decide) dL_write_7 rfl (fun z hz => absurd hz List.not_mem_nil) (by decide) (by decide) m_110 (by simp [cst, exN]) rfl h6 (fun q9 => ?_)
      refine go_astore (lv' := [(5, .ref q9), (0, .ref v0), (1, .int v1), (2, .int v2), (3, .int v3), (4, .ref v4)]) hC dL_write_15 (by decide) rfl ?_
      refine go_iconst hC dL_write_17 (v := (1 : Int32)) (by decide +kernel) ?_
      cases h
      exact go_iret hE dL_write_18
    have h := os_f h e8
    by_cases e9 : c5 = 2
    · have h := os_t h e9
      subst e9
      refine go_callVH (pre := [⟨0, 12, 15, 13⟩]) (en := ⟨0, 12, 19, 19⟩) (suf := []) (hpc := 19) (bytes := cX4_write) (maxL := 5) (ret := (some .int)) (n := 3) (As := [.int v1, .int v2, .int v3]) (st := [.int (0 : Int32), .ref v4]) hX (cX_X4_write K.2.1 hX.2.2 h3) (by unfold okY; decide +kernel) rfl h4 rfl (C := RX4) (T := TX4) (N := 7) rfl m_319 m_316 m_317 m_318 m_2 rfl (by simp [Value.category]) (by decide) (by decide) dL_write_7 rfl (fun z hz => by rcases List.mem_singleton.mp hz with rfl; exact ⟨by decide, by decide, _, m_110, fun s H h => h.2.2.2.2.2.2.2.2.2.2.2.2.1⟩) (by decide) (by decide) m_136 (by simp [cst, exN]) rfl h6 (fun q9 => ?_)
      refine go_astore (lv' := [(5, .ref q9), (0, .ref v0), (1, .int v1), (2, .int v2), (3, .int v3), (4, .ref v4)]) hC dL_write_19 (by decide) rfl ?_
      refine go_iconst hC dL_write_21 (v := (2 : Int32)) (by decide +kernel) ?_
      cases h
      exact go_iret hE dL_write_22
    have h := os_f h e9
    cases h
theorem c_L_write (l : Launch) (hl : l.stackTraces = false) {x9 : Cx} {k9 : Nat} {M M9 : Mm} {r9 : Int32} {v0 : Nat} {v1 : Int32} {v2 : Int32} {v3 : Int32} {v4 : Nat} (h : fL_write x9 k9 v0 v1 v2 v3 v4 M = some (r9, M9)) : FnH l x9 yL_write cL_write 6 (some .int) [(0, 12, 15, 13), (0, 12, 19, 19)] 9 155 [.ref v0, .int v1, .int v2, .int v3, .ref v4] M (some (.int r9)) M9 :=
  FnH.of hl (by decide +kernel) (Nat.le_of_ble_eq_true rfl) rfl (fun K _ hX => tL_write_0 hX _ _ _ _ _ _ h)
/-! L_change -/
def fL_change (x9 : Cx) (k9 : Nat) (v0 : Nat) (v1 : Int32) (v2 : Int32) (v3 : Int32) (v4 : Int32) (v5 : Nat) (M : Mm) : Option (Int32 × Mm) :=
  if mK M v0 = 5 then obH (fX4_change x9 k9 v0 v1 v2 v3 v4 M) (fun r1 M2 => if mK M2 v5 = 12 ∧ ¬ ((0 : Int32) < 0 ∨ mN M2 v5 ≤ ((0 : Int32)).toNatClampNeg) then some ((0 : Int32), (sJ M2 v5 ((0 : Int32)).toNatClampNeg (r1).toInt64)) else none) (fun c5 M2 => if mX M2 + 1 ≤ xC x9 ∧ mS M2 + 6 ≤ xL x9 then if c5 = 1 then some ((1 : Int32), (sX M2 (mX M2 + 1) (mS M2 + 6))) else if c5 = 2 then some ((2 : Int32), (sX M2 (mX M2 + 1) (mS M2 + 6))) else none else none) else none
set_option maxRecDepth 100000 in
set_option maxHeartbeats 4000000 in
theorem tL_change_0 {x9 : Cx} {K : Ct} {k9 : Nat} {M0 M9 : Mm} {r9 : Int32} (hX : CeH x9 K RL cL_change 7 (some .int) [(0, 14, 17, 13), (0, 14, 21, 19)] 9 156 "change" M0) (v0 : Nat) (v1 : Int32) (v2 : Int32) (v3 : Int32) (v4 : Int32) (v5 : Nat) (M : Mm) (h : fL_change x9 k9 v0 v1 v2 v3 v4 v5 M = some (r9, M9)) : Go x9 K 7 (Qf x9 K M0 (some (.int r9)) M9) 0 [(0, .ref v0), (1, .int v1), (2, .int v2), (3, .int v3), (4, .int v4), (5, .ref v5)] [] M := by
  have hE := hX.1
  have hC := hE.1
  unfold fL_change at h
  refine go_aload hC dL_change_0 5 rfl ?_
  refine go_iconst hC dL_change_2 (v := (0 : Int32)) (by decide +kernel) ?_
  refine go_aload_n hC dL_change_3 rfl 0 rfl ?_
  refine go_iload_n hC dL_change_4 rfl 1 rfl ?_
  refine go_iload_n hC dL_change_5 rfl 2 rfl ?_
  refine go_iload_n hC dL_change_6 rfl 3 rfl ?_
  refine go_iload hC dL_change_7 4 rfl ?_
  obtain ⟨h4, h⟩ := os_1 h
  rcases os_H h with ⟨r1, M2, h3, h⟩ | ⟨c5, M2, h3, h⟩
  · refine go_callV (bytes := cX4_change) (maxL := 6) (ret := (some .int)) (n := 4) (As := [.int v1, .int v2, .int v3, .int v4]) (st := [.int (0 : Int32), .ref v5]) hE (c_X4_change K.2.1 h3) (by unfold okY; decide +kernel) rfl h4 rfl (C := RX4) (T := TX4) (N := 7) rfl m_346 m_343 m_344 m_345 m_2 rfl (by simp [Value.category]) (by decide) (by decide) dL_change_9 ?_
    refine go_eq (pc' := 12) (st' := [.int r1, .int (0 : Int32), .ref v5]) (M' := M2) (lv' := [(0, .ref v0), (1, .int v1), (2, .int v2), (3, .int v3), (4, .int v4), (5, .ref v5)]) ?_ rfl rfl rfl rfl
    refine go_i2l hC dL_change_12 ?_
    obtain ⟨h7, h⟩ := os_1 h
    refine go_last hC h7.1 h7.2 dL_change_13 ?_
    refine go_goto (t := 25) hC dL_change_14 (by decide) ?_
    refine go_iconst hC dL_change_25 (v := (0 : Int32)) (by decide +kernel) ?_
    cases h
    exact go_iret hE dL_change_26
  · obtain ⟨h6, h⟩ := os_1 h
    by_cases e8 : c5 = 1
    · have h := os_t h e8
      subst e8
      refine go_callVH (pre := []) (en := ⟨0, 14, 17, 13⟩) (suf := [⟨0, 14, 21, 19⟩]) (hpc := 17) (bytes := cX4_change) (maxL := 6) (ret := (some .int)) (n := 4) (As := [.int v1, .int v2, .int v3, .int v4]) (st := [.int (0 : Int32), .ref v5]) hX (cX_X4_change K.2.1 hX.2.2 h3) (by unfold okY; decide +kernel) rfl h4 rfl (C := RX4) (T := TX4) (N := 7) rfl m_346 m_343 m_344 m_345 m_2 rfl (by simp [Value.category]) (by decide) (by decide) dL_change_9 rfl (fun z hz => absurd hz List.not_mem_nil) (by decide) (by decide) m_110 (by simp [cst, exN]) rfl h6 (fun q9 => ?_)
      refine go_astore (lv' := [(6, .ref q9), (0, .ref v0), (1, .int v1), (2, .int v2), (3, .int v3), (4, .int v4), (5, .ref v5)]) hC dL_change_17 (by decide) rfl ?_
      refine go_iconst hC dL_change_19 (v := (1 : Int32)) (by decide +kernel) ?_
      cases h
      exact go_iret hE dL_change_20
    have h := os_f h e8
    by_cases e9 : c5 = 2
    · have h := os_t h e9
      subst e9
      refine go_callVH (pre := [⟨0, 14, 17, 13⟩]) (en := ⟨0, 14, 21, 19⟩) (suf := []) (hpc := 21) (bytes := cX4_change) (maxL := 6) (ret := (some .int)) (n := 4) (As := [.int v1, .int v2, .int v3, .int v4]) (st := [.int (0 : Int32), .ref v5]) hX (cX_X4_change K.2.1 hX.2.2 h3) (by unfold okY; decide +kernel) rfl h4 rfl (C := RX4) (T := TX4) (N := 7) rfl m_346 m_343 m_344 m_345 m_2 rfl (by simp [Value.category]) (by decide) (by decide) dL_change_9 rfl (fun z hz => by rcases List.mem_singleton.mp hz with rfl; exact ⟨by decide, by decide, _, m_110, fun s H h => h.2.2.2.2.2.2.2.2.2.2.2.2.1⟩) (by decide) (by decide) m_136 (by simp [cst, exN]) rfl h6 (fun q9 => ?_)
      refine go_astore (lv' := [(6, .ref q9), (0, .ref v0), (1, .int v1), (2, .int v2), (3, .int v3), (4, .int v4), (5, .ref v5)]) hC dL_change_21 (by decide) rfl ?_
      refine go_iconst hC dL_change_23 (v := (2 : Int32)) (by decide +kernel) ?_
      cases h
      exact go_iret hE dL_change_24
    have h := os_f h e9
    cases h
theorem c_L_change (l : Launch) (hl : l.stackTraces = false) {x9 : Cx} {k9 : Nat} {M M9 : Mm} {r9 : Int32} {v0 : Nat} {v1 : Int32} {v2 : Int32} {v3 : Int32} {v4 : Int32} {v5 : Nat} (h : fL_change x9 k9 v0 v1 v2 v3 v4 v5 M = some (r9, M9)) : FnH l x9 yL_change cL_change 7 (some .int) [(0, 14, 17, 13), (0, 14, 21, 19)] 9 156 [.ref v0, .int v1, .int v2, .int v3, .int v4, .ref v5] M (some (.int r9)) M9 :=
  FnH.of hl (by decide +kernel) (Nat.le_of_ble_eq_true rfl) rfl (fun K _ hX => tL_change_0 hX _ _ _ _ _ _ _ h)
/-! L_count -/
def fL_count (x9 : Cx) (k9 : Nat) (v0 : Nat) (v1 : Int32) (v2 : Int32) (v3 : Int32) (v4 : Nat) (M : Mm) : Option (Int32 × Mm) :=
  if mK M v0 = 5 then obH (fX4_count x9 k9 v0 v1 v2 v3 M) (fun r1 M2 => if mK M2 v4 = 12 ∧ ¬ ((0 : Int32) < 0 ∨ mN M2 v4 ≤ ((0 : Int32)).toNatClampNeg) then some ((0 : Int32), (sJ M2 v4 ((0 : Int32)).toNatClampNeg (r1).toInt64)) else none) (fun c5 M2 => if mX M2 + 1 ≤ xC x9 ∧ mS M2 + 6 ≤ xL x9 then if c5 = 1 then some ((1 : Int32), (sX M2 (mX M2 + 1) (mS M2 + 6))) else if c5 = 2 then some ((2 : Int32), (sX M2 (mX M2 + 1) (mS M2 + 6))) else none else none) else none
set_option maxRecDepth 100000 in
set_option maxHeartbeats 4000000 in
theorem tL_count_0 {x9 : Cx} {K : Ct} {k9 : Nat} {M0 M9 : Mm} {r9 : Int32} (hX : CeH x9 K RL cL_count 6 (some .int) [(0, 12, 15, 13), (0, 12, 19, 19)] 9 156 "count" M0) (v0 : Nat) (v1 : Int32) (v2 : Int32) (v3 : Int32) (v4 : Nat) (M : Mm) (h : fL_count x9 k9 v0 v1 v2 v3 v4 M = some (r9, M9)) : Go x9 K 6 (Qf x9 K M0 (some (.int r9)) M9) 0 [(0, .ref v0), (1, .int v1), (2, .int v2), (3, .int v3), (4, .ref v4)] [] M := by
  have hE := hX.1
  have hC := hE.1
  unfold fL_count at h
  refine go_aload hC dL_count_0 4 rfl ?_
  refine go_iconst hC dL_count_2 (v := (0 : Int32)) (by decide +kernel) ?_
  refine go_aload_n hC dL_count_3 rfl 0 rfl ?_
  refine go_iload_n hC dL_count_4 rfl 1 rfl ?_
  refine go_iload_n hC dL_count_5 rfl 2 rfl ?_
  refine go_iload_n hC dL_count_6 rfl 3 rfl ?_
  obtain ⟨h4, h⟩ := os_1 h
  rcases os_H h with ⟨r1, M2, h3, h⟩ | ⟨c5, M2, h3, h⟩
  · refine go_callV (bytes := cX4_count) (maxL := 6) (ret := (some .int)) (n := 3) (As := [.int v1, .int v2, .int v3]) (st := [.int (0 : Int32), .ref v4]) hE (c_X4_count K.2.1 h3) (by unfold okY; decide +kernel) rfl h4 rfl (C := RX4) (T := TX4) (N := 7) rfl m_369 m_366 m_367 m_368 m_2 rfl (by simp [Value.category]) (by decide) (by decide) dL_count_7 ?_
    refine go_eq (pc' := 10) (st' := [.int r1, .int (0 : Int32), .ref v4]) (M' := M2) (lv' := [(0, .ref v0), (1, .int v1), (2, .int v2), (3, .int v3), (4, .ref v4)]) ?_ rfl rfl rfl rfl
    refine go_i2l hC dL_count_10 ?_
    obtain ⟨h7, h⟩ := os_1 h
    refine go_last hC h7.1 h7.2 dL_count_11 ?_
    refine go_goto (t := 23) hC dL_count_12 (by decide) ?_
    refine go_iconst hC dL_count_23 (v := (0 : Int32)) (by decide +kernel) ?_
    cases h
    exact go_iret hE dL_count_24
  · obtain ⟨h6, h⟩ := os_1 h
    by_cases e8 : c5 = 1
    · have h := os_t h e8
      subst e8
      refine go_callVH (pre := []) (en := ⟨0, 12, 15, 13⟩) (suf := [⟨0, 12, 19, 19⟩]) (hpc := 15) (bytes := cX4_count) (maxL := 6) (ret := (some .int)) (n := 3) (As := [.int v1, .int v2, .int v3]) (st := [.int (0 : Int32), .ref v4]) hX (cX_X4_count K.2.1 hX.2.2 h3) (by unfold okY; decide +kernel) rfl h4 rfl (C := RX4) (T := TX4) (N := 7) rfl m_369 m_366 m_367 m_368 m_2 rfl (by simp [Value.category]) (by decide) (by decide) dL_count_7 rfl (fun z hz => absurd hz List.not_mem_nil) (by decide) (by decide) m_110 (by simp [cst, exN]) rfl h6 (fun q9 => ?_)
      refine go_astore (lv' := [(5, .ref q9), (0, .ref v0), (1, .int v1), (2, .int v2), (3, .int v3), (4, .ref v4)]) hC dL_count_15 (by decide) rfl ?_
      refine go_iconst hC dL_count_17 (v := (1 : Int32)) (by decide +kernel) ?_
      cases h
      exact go_iret hE dL_count_18
    have h := os_f h e8
    by_cases e9 : c5 = 2
    · have h := os_t h e9
      subst e9
      refine go_callVH (pre := [⟨0, 12, 15, 13⟩]) (en := ⟨0, 12, 19, 19⟩) (suf := []) (hpc := 19) (bytes := cX4_count) (maxL := 6) (ret := (some .int)) (n := 3) (As := [.int v1, .int v2, .int v3]) (st := [.int (0 : Int32), .ref v4]) hX (cX_X4_count K.2.1 hX.2.2 h3) (by unfold okY; decide +kernel) rfl h4 rfl (C := RX4) (T := TX4) (N := 7) rfl m_369 m_366 m_367 m_368 m_2 rfl (by simp [Value.category]) (by decide) (by decide) dL_count_7 rfl (fun z hz => by rcases List.mem_singleton.mp hz with rfl; exact ⟨by decide, by decide, _, m_110, fun s H h => h.2.2.2.2.2.2.2.2.2.2.2.2.1⟩) (by decide) (by decide) m_136 (by simp [cst, exN]) rfl h6 (fun q9 => ?_)
      refine go_astore (lv' := [(5, .ref q9), (0, .ref v0), (1, .int v1), (2, .int v2), (3, .int v3), (4, .ref v4)]) hC dL_count_19 (by decide) rfl ?_
      refine go_iconst hC dL_count_21 (v := (2 : Int32)) (by decide +kernel) ?_
      cases h
      exact go_iret hE dL_count_22
    have h := os_f h e9
    cases h
theorem c_L_count (l : Launch) (hl : l.stackTraces = false) {x9 : Cx} {k9 : Nat} {M M9 : Mm} {r9 : Int32} {v0 : Nat} {v1 : Int32} {v2 : Int32} {v3 : Int32} {v4 : Nat} (h : fL_count x9 k9 v0 v1 v2 v3 v4 M = some (r9, M9)) : FnH l x9 yL_count cL_count 6 (some .int) [(0, 12, 15, 13), (0, 12, 19, 19)] 9 156 [.ref v0, .int v1, .int v2, .int v3, .ref v4] M (some (.int r9)) M9 :=
  FnH.of hl (by decide +kernel) (Nat.le_of_ble_eq_true rfl) rfl (fun K _ hX => tL_count_0 hX _ _ _ _ _ _ h)
/-! L_commit -/
def fL_commit (x9 : Cx) (k9 : Nat) (v0 : Nat) (v1 : Int32) (v2 : Nat) (M : Mm) : Option (Int32 × Mm) :=
  if mK M v0 = 5 then obH (fX4_commit x9 k9 v0 v1 M) (fun r1 M2 => if mK M2 v2 = 12 ∧ ¬ ((0 : Int32) < 0 ∨ mN M2 v2 ≤ ((0 : Int32)).toNatClampNeg) then some ((0 : Int32), (sJ M2 v2 ((0 : Int32)).toNatClampNeg (r1).toInt64)) else none) (fun c5 M2 => if mX M2 + 1 ≤ xC x9 ∧ mS M2 + 6 ≤ xL x9 then if c5 = 1 then some ((1 : Int32), (sX M2 (mX M2 + 1) (mS M2 + 6))) else if c5 = 2 then some ((2 : Int32), (sX M2 (mX M2 + 1) (mS M2 + 6))) else none else none) else none
set_option maxRecDepth 100000 in
set_option maxHeartbeats 4000000 in
theorem tL_commit_0 {x9 : Cx} {K : Ct} {k9 : Nat} {M0 M9 : Mm} {r9 : Int32} (hX : CeH x9 K RL cL_commit 4 (some .int) [(0, 9, 12, 13), (0, 9, 15, 19)] 11 264 "commit" M0) (v0 : Nat) (v1 : Int32) (v2 : Nat) (M : Mm) (h : fL_commit x9 k9 v0 v1 v2 M = some (r9, M9)) : Go x9 K 4 (Qf x9 K M0 (some (.int r9)) M9) 0 [(0, .ref v0), (1, .int v1), (2, .ref v2)] [] M := by
  have hE := hX.1
  have hC := hE.1
  unfold fL_commit at h
  refine go_aload_n hC dL_commit_0 rfl 2 rfl ?_
  refine go_iconst hC dL_commit_1 (v := (0 : Int32)) (by decide +kernel) ?_
  refine go_aload_n hC dL_commit_2 rfl 0 rfl ?_
  refine go_iload_n hC dL_commit_3 rfl 1 rfl ?_
  obtain ⟨h4, h⟩ := os_1 h
  rcases os_H h with ⟨r1, M2, h3, h⟩ | ⟨c5, M2, h3, h⟩
  · refine go_callV (bytes := cX4_commit) (maxL := 4) (ret := (some .int)) (n := 1) (As := [.int v1]) (st := [.int (0 : Int32), .ref v2]) hE (c_X4_commit K.2.1 h3) (by unfold okY; decide +kernel) rfl h4 rfl (C := RX4) (T := TX4) (N := 7) rfl m_388 m_385 m_386 m_387 m_2 rfl (by simp [Value.category]) (by decide) (by decide) dL_commit_4 ?_
    refine go_eq (pc' := 7) (st' := [.int r1, .int (0 : Int32), .ref v2]) (M' := M2) (lv' := [(0, .ref v0), (1, .int v1), (2, .ref v2)]) ?_ rfl rfl rfl rfl
    refine go_i2l hC dL_commit_7 ?_
    obtain ⟨h7, h⟩ := os_1 h
    refine go_last hC h7.1 h7.2 dL_commit_8 ?_
    refine go_goto (t := 18) hC dL_commit_9 (by decide) ?_
    refine go_iconst hC dL_commit_18 (v := (0 : Int32)) (by decide +kernel) ?_
    cases h
    exact go_iret hE dL_commit_19
  · obtain ⟨h6, h⟩ := os_1 h
    by_cases e8 : c5 = 1
    · have h := os_t h e8
      subst e8
      refine go_callVH (pre := []) (en := ⟨0, 9, 12, 13⟩) (suf := [⟨0, 9, 15, 19⟩]) (hpc := 12) (bytes := cX4_commit) (maxL := 4) (ret := (some .int)) (n := 1) (As := [.int v1]) (st := [.int (0 : Int32), .ref v2]) hX (cX_X4_commit K.2.1 hX.2.2 h3) (by unfold okY; decide +kernel) rfl h4 rfl (C := RX4) (T := TX4) (N := 7) rfl m_388 m_385 m_386 m_387 m_2 rfl (by simp [Value.category]) (by decide) (by decide) dL_commit_4 rfl (fun z hz => absurd hz List.not_mem_nil) (by decide) (by decide) m_110 (by simp [cst, exN]) rfl h6 (fun q9 => ?_)
      refine go_astore_n (lv' := [(3, .ref q9), (0, .ref v0), (1, .int v1), (2, .ref v2)]) hC dL_commit_12 rfl (by decide) rfl ?_
      refine go_iconst hC dL_commit_13 (v := (1 : Int32)) (by decide +kernel) ?_
      cases h
      exact go_iret hE dL_commit_14
    have h := os_f h e8
    by_cases e9 : c5 = 2
    · have h := os_t h e9
      subst e9
      refine go_callVH (pre := [⟨0, 9, 12, 13⟩]) (en := ⟨0, 9, 15, 19⟩) (suf := []) (hpc := 15) (bytes := cX4_commit) (maxL := 4) (ret := (some .int)) (n := 1) (As := [.int v1]) (st := [.int (0 : Int32), .ref v2]) hX (cX_X4_commit K.2.1 hX.2.2 h3) (by unfold okY; decide +kernel) rfl h4 rfl (C := RX4) (T := TX4) (N := 7) rfl m_388 m_385 m_386 m_387 m_2 rfl (by simp [Value.category]) (by decide) (by decide) dL_commit_4 rfl (fun z hz => by rcases List.mem_singleton.mp hz with rfl; exact ⟨by decide, by decide, _, m_110, fun s H h => h.2.2.2.2.2.2.2.2.2.2.2.2.1⟩) (by decide) (by decide) m_136 (by simp [cst, exN]) rfl h6 (fun q9 => ?_)
      refine go_astore_n (lv' := [(3, .ref q9), (0, .ref v0), (1, .int v1), (2, .ref v2)]) hC dL_commit_15 rfl (by decide) rfl ?_
      refine go_iconst hC dL_commit_16 (v := (2 : Int32)) (by decide +kernel) ?_
      cases h
      exact go_iret hE dL_commit_17
    have h := os_f h e9
    cases h
theorem c_L_commit (l : Launch) (hl : l.stackTraces = false) {x9 : Cx} {k9 : Nat} {M M9 : Mm} {r9 : Int32} {v0 : Nat} {v1 : Int32} {v2 : Nat} (h : fL_commit x9 k9 v0 v1 v2 M = some (r9, M9)) : FnH l x9 yL_commit cL_commit 4 (some .int) [(0, 9, 12, 13), (0, 9, 15, 19)] 11 264 [.ref v0, .int v1, .ref v2] M (some (.int r9)) M9 :=
  FnH.of hl (by decide +kernel) (Nat.le_of_ble_eq_true rfl) rfl (fun K _ hX => tL_commit_0 hX _ _ _ _ h)
/-! L_abort -/
def fL_abort (x9 : Cx) (k9 : Nat) (v0 : Nat) (v1 : Int32) (M : Mm) : Option (Int32 × Mm) :=
  if mK M v0 = 5 then obH (fX4_abort x9 k9 v0 v1 M) (fun r1 M2 => some ((0 : Int32), M2)) (fun c5 M2 => if mX M2 + 1 ≤ xC x9 ∧ mS M2 + 6 ≤ xL x9 then if c5 = 1 then some ((1 : Int32), (sX M2 (mX M2 + 1) (mS M2 + 6))) else if c5 = 2 then some ((2 : Int32), (sX M2 (mX M2 + 1) (mS M2 + 6))) else none else none) else none
set_option maxRecDepth 100000 in
set_option maxHeartbeats 4000000 in
theorem tL_abort_0 {x9 : Cx} {K : Ct} {k9 : Nat} {M0 M9 : Mm} {r9 : Int32} (hX : CeH x9 K RL cL_abort 3 (some .int) [(0, 5, 8, 13), (0, 5, 11, 19)] 9 153 "abort" M0) (v0 : Nat) (v1 : Int32) (M : Mm) (h : fL_abort x9 k9 v0 v1 M = some (r9, M9)) : Go x9 K 3 (Qf x9 K M0 (some (.int r9)) M9) 0 [(0, .ref v0), (1, .int v1)] [] M := by
  have hE := hX.1
  have hC := hE.1
  unfold fL_abort at h
  refine go_aload_n hC dL_abort_0 rfl 0 rfl ?_
  refine go_iload_n hC dL_abort_1 rfl 1 rfl ?_
  obtain ⟨h4, h⟩ := os_1 h
  rcases os_H h with ⟨r1, M2, h3, h⟩ | ⟨c5, M2, h3, h⟩
  · refine go_callV (bytes := cX4_abort) (maxL := 3) (ret := none) (n := 1) (As := [.int v1]) (st := []) hE (c_X4_abort K.2.1 h3) (by unfold okY; decide +kernel) rfl h4 rfl (C := RX4) (T := TX4) (N := 7) rfl m_514 m_511 m_512 m_513 m_2 rfl (by simp [Value.category]) (by decide) (by decide) dL_abort_2 ?_
    refine go_eq (pc' := 5) (st' := []) (M' := M2) (lv' := [(0, .ref v0), (1, .int v1)]) ?_ rfl rfl rfl rfl
    refine go_goto (t := 14) hC dL_abort_5 (by decide) ?_
    refine go_iconst hC dL_abort_14 (v := (0 : Int32)) (by decide +kernel) ?_
    cases h
    exact go_iret hE dL_abort_15
  · obtain ⟨h6, h⟩ := os_1 h
    by_cases e7 : c5 = 1
    · have h := os_t h e7
      subst e7
      refine go_callVH (pre := []) (en := ⟨0, 5, 8, 13⟩) (suf := [⟨0, 5, 11, 19⟩]) (hpc := 8) (bytes := cX4_abort) (maxL := 3) (ret := none) (n := 1) (As := [.int v1]) (st := []) hX (cX_X4_abort K.2.1 hX.2.2 h3) (by unfold okY; decide +kernel) rfl h4 rfl (C := RX4) (T := TX4) (N := 7) rfl m_514 m_511 m_512 m_513 m_2 rfl (by simp [Value.category]) (by decide) (by decide) dL_abort_2 rfl (fun z hz => absurd hz List.not_mem_nil) (by decide) (by decide) m_110 (by simp [cst, exN]) rfl h6 (fun q9 => ?_)
      refine go_astore_n (lv' := [(2, .ref q9), (0, .ref v0), (1, .int v1)]) hC dL_abort_8 rfl (by decide) rfl ?_
      refine go_iconst hC dL_abort_9 (v := (1 : Int32)) (by decide +kernel) ?_
      cases h
      exact go_iret hE dL_abort_10
    have h := os_f h e7
    by_cases e8 : c5 = 2
    · have h := os_t h e8
      subst e8
      refine go_callVH (pre := [⟨0, 5, 8, 13⟩]) (en := ⟨0, 5, 11, 19⟩) (suf := []) (hpc := 11) (bytes := cX4_abort) (maxL := 3) (ret := none) (n := 1) (As := [.int v1]) (st := []) hX (cX_X4_abort K.2.1 hX.2.2 h3) (by unfold okY; decide +kernel) rfl h4 rfl (C := RX4) (T := TX4) (N := 7) rfl m_514 m_511 m_512 m_513 m_2 rfl (by simp [Value.category]) (by decide) (by decide) dL_abort_2 rfl (fun z hz => by rcases List.mem_singleton.mp hz with rfl; exact ⟨by decide, by decide, _, m_110, fun s H h => h.2.2.2.2.2.2.2.2.2.2.2.2.1⟩) (by decide) (by decide) m_136 (by simp [cst, exN]) rfl h6 (fun q9 => ?_)
      refine go_astore_n (lv' := [(2, .ref q9), (0, .ref v0), (1, .int v1)]) hC dL_abort_11 rfl (by decide) rfl ?_
      refine go_iconst hC dL_abort_12 (v := (2 : Int32)) (by decide +kernel) ?_
      cases h
      exact go_iret hE dL_abort_13
    have h := os_f h e8
    cases h
theorem c_L_abort (l : Launch) (hl : l.stackTraces = false) {x9 : Cx} {k9 : Nat} {M M9 : Mm} {r9 : Int32} {v0 : Nat} {v1 : Int32} (h : fL_abort x9 k9 v0 v1 M = some (r9, M9)) : FnH l x9 yL_abort cL_abort 3 (some .int) [(0, 5, 8, 13), (0, 5, 11, 19)] 9 153 [.ref v0, .int v1] M (some (.int r9)) M9 :=
  FnH.of hl (by decide +kernel) (Nat.le_of_ble_eq_true rfl) rfl (fun K _ hX => tL_abort_0 hX _ _ _ h)
/-! L_again -/
def fL_again (x9 : Cx) (k9 : Nat) (v0 : Nat) (v1 : Int32) (v2 : Nat) (M : Mm) : Option (Int32 × Mm) :=
  if mK M v0 = 5 then obH (fX4_again x9 k9 v0 v1 M) (fun r1 M2 => if mK M2 v2 = 12 ∧ ¬ ((0 : Int32) < 0 ∨ mN M2 v2 ≤ ((0 : Int32)).toNatClampNeg) then some ((0 : Int32), (sJ M2 v2 ((0 : Int32)).toNatClampNeg (r1).toInt64)) else none) (fun c5 M2 => if mX M2 + 1 ≤ xC x9 ∧ mS M2 + 6 ≤ xL x9 then if c5 = 1 then some ((1 : Int32), (sX M2 (mX M2 + 1) (mS M2 + 6))) else if c5 = 2 then some ((2 : Int32), (sX M2 (mX M2 + 1) (mS M2 + 6))) else none else none) else none
set_option maxRecDepth 100000 in
set_option maxHeartbeats 4000000 in
theorem tL_again_0 {x9 : Cx} {K : Ct} {k9 : Nat} {M0 M9 : Mm} {r9 : Int32} (hX : CeH x9 K RL cL_again 4 (some .int) [(0, 9, 12, 13), (0, 9, 15, 19)] 10 241 "again" M0) (v0 : Nat) (v1 : Int32) (v2 : Nat) (M : Mm) (h : fL_again x9 k9 v0 v1 v2 M = some (r9, M9)) : Go x9 K 4 (Qf x9 K M0 (some (.int r9)) M9) 0 [(0, .ref v0), (1, .int v1), (2, .ref v2)] [] M := by
  have hE := hX.1
  have hC := hE.1
  unfold fL_again at h
  refine go_aload_n hC dL_again_0 rfl 2 rfl ?_
  refine go_iconst hC dL_again_1 (v := (0 : Int32)) (by decide +kernel) ?_
  refine go_aload_n hC dL_again_2 rfl 0 rfl ?_
  refine go_iload_n hC dL_again_3 rfl 1 rfl ?_
  obtain ⟨h4, h⟩ := os_1 h
  rcases os_H h with ⟨r1, M2, h3, h⟩ | ⟨c5, M2, h3, h⟩
  · refine go_callV (bytes := cX4_again) (maxL := 3) (ret := (some .int)) (n := 1) (As := [.int v1]) (st := [.int (0 : Int32), .ref v2]) hE (c_X4_again K.2.1 h3) (by unfold okY; decide +kernel) rfl h4 rfl (C := RX4) (T := TX4) (N := 7) rfl m_525 m_522 m_523 m_524 m_2 rfl (by simp [Value.category]) (by decide) (by decide) dL_again_4 ?_
    refine go_eq (pc' := 7) (st' := [.int r1, .int (0 : Int32), .ref v2]) (M' := M2) (lv' := [(0, .ref v0), (1, .int v1), (2, .ref v2)]) ?_ rfl rfl rfl rfl
    refine go_i2l hC dL_again_7 ?_
    obtain ⟨h7, h⟩ := os_1 h
    refine go_last hC h7.1 h7.2 dL_again_8 ?_
    refine go_goto (t := 18) hC dL_again_9 (by decide) ?_
    refine go_iconst hC dL_again_18 (v := (0 : Int32)) (by decide +kernel) ?_
    cases h
    exact go_iret hE dL_again_19
  · obtain ⟨h6, h⟩ := os_1 h
    by_cases e8 : c5 = 1
    · have h := os_t h e8
      subst e8
      refine go_callVH (pre := []) (en := ⟨0, 9, 12, 13⟩) (suf := [⟨0, 9, 15, 19⟩]) (hpc := 12) (bytes := cX4_again) (maxL := 3) (ret := (some .int)) (n := 1) (As := [.int v1]) (st := [.int (0 : Int32), .ref v2]) hX (cX_X4_again K.2.1 hX.2.2 h3) (by unfold okY; decide +kernel) rfl h4 rfl (C := RX4) (T := TX4) (N := 7) rfl m_525 m_522 m_523 m_524 m_2 rfl (by simp [Value.category]) (by decide) (by decide) dL_again_4 rfl (fun z hz => absurd hz List.not_mem_nil) (by decide) (by decide) m_110 (by simp [cst, exN]) rfl h6 (fun q9 => ?_)
      refine go_astore_n (lv' := [(3, .ref q9), (0, .ref v0), (1, .int v1), (2, .ref v2)]) hC dL_again_12 rfl (by decide) rfl ?_
      refine go_iconst hC dL_again_13 (v := (1 : Int32)) (by decide +kernel) ?_
      cases h
      exact go_iret hE dL_again_14
    have h := os_f h e8
    by_cases e9 : c5 = 2
    · have h := os_t h e9
      subst e9
      refine go_callVH (pre := [⟨0, 9, 12, 13⟩]) (en := ⟨0, 9, 15, 19⟩) (suf := []) (hpc := 15) (bytes := cX4_again) (maxL := 3) (ret := (some .int)) (n := 1) (As := [.int v1]) (st := [.int (0 : Int32), .ref v2]) hX (cX_X4_again K.2.1 hX.2.2 h3) (by unfold okY; decide +kernel) rfl h4 rfl (C := RX4) (T := TX4) (N := 7) rfl m_525 m_522 m_523 m_524 m_2 rfl (by simp [Value.category]) (by decide) (by decide) dL_again_4 rfl (fun z hz => by rcases List.mem_singleton.mp hz with rfl; exact ⟨by decide, by decide, _, m_110, fun s H h => h.2.2.2.2.2.2.2.2.2.2.2.2.1⟩) (by decide) (by decide) m_136 (by simp [cst, exN]) rfl h6 (fun q9 => ?_)
      refine go_astore_n (lv' := [(3, .ref q9), (0, .ref v0), (1, .int v1), (2, .ref v2)]) hC dL_again_15 rfl (by decide) rfl ?_
      refine go_iconst hC dL_again_16 (v := (2 : Int32)) (by decide +kernel) ?_
      cases h
      exact go_iret hE dL_again_17
    have h := os_f h e9
    cases h
theorem c_L_again (l : Launch) (hl : l.stackTraces = false) {x9 : Cx} {k9 : Nat} {M M9 : Mm} {r9 : Int32} {v0 : Nat} {v1 : Int32} {v2 : Nat} (h : fL_again x9 k9 v0 v1 v2 M = some (r9, M9)) : FnH l x9 yL_again cL_again 4 (some .int) [(0, 9, 12, 13), (0, 9, 15, 19)] 10 241 [.ref v0, .int v1, .ref v2] M (some (.int r9)) M9 :=
  FnH.of hl (by decide +kernel) (Nat.le_of_ble_eq_true rfl) rfl (fun K _ hX => tL_again_0 hX _ _ _ _ h)
/-! L_deliver -/
def fL_deliver (x9 : Cx) (k9 : Nat) (v0 : Nat) (v1 : Int32) (v2 : Nat) (M : Mm) : Option (Int32 × Mm) :=
  if mK M v0 = 5 then obH (fX4_deliver x9 k9 v0 v1 M) (fun r1 M2 => if mK M2 v2 = 12 ∧ ¬ ((0 : Int32) < 0 ∨ mN M2 v2 ≤ ((0 : Int32)).toNatClampNeg) then some ((0 : Int32), (sJ M2 v2 ((0 : Int32)).toNatClampNeg (r1).toInt64)) else none) (fun c5 M2 => if mX M2 + 1 ≤ xC x9 ∧ mS M2 + 6 ≤ xL x9 then if c5 = 1 then some ((1 : Int32), (sX M2 (mX M2 + 1) (mS M2 + 6))) else none else none) else none
set_option maxRecDepth 100000 in
set_option maxHeartbeats 4000000 in
theorem tL_deliver_0 {x9 : Cx} {K : Ct} {k9 : Nat} {M0 M9 : Mm} {r9 : Int32} (hX : CeH x9 K RL cL_deliver 4 (some .int) [(0, 9, 12, 13)] 13 306 "deliver" M0) (v0 : Nat) (v1 : Int32) (v2 : Nat) (M : Mm) (h : fL_deliver x9 k9 v0 v1 v2 M = some (r9, M9)) : Go x9 K 4 (Qf x9 K M0 (some (.int r9)) M9) 0 [(0, .ref v0), (1, .int v1), (2, .ref v2)] [] M := by
  have hE := hX.1
  have hC := hE.1
  unfold fL_deliver at h
  refine go_aload_n hC dL_deliver_0 rfl 2 rfl ?_
  refine go_iconst hC dL_deliver_1 (v := (0 : Int32)) (by decide +kernel) ?_
  refine go_aload_n hC dL_deliver_2 rfl 0 rfl ?_
  refine go_iload_n hC dL_deliver_3 rfl 1 rfl ?_
  obtain ⟨h4, h⟩ := os_1 h
  rcases os_H h with ⟨r1, M2, h3, h⟩ | ⟨c5, M2, h3, h⟩
  · refine go_callV (bytes := cX4_deliver) (maxL := 3) (ret := (some .int)) (n := 1) (As := [.int v1]) (st := [.int (0 : Int32), .ref v2]) hE (c_X4_deliver K.2.1 h3) (by unfold okY; decide +kernel) rfl h4 rfl (C := RX4) (T := TX4) (N := 7) rfl m_537 m_534 m_535 m_536 m_2 rfl (by simp [Value.category]) (by decide) (by decide) dL_deliver_4 ?_
    refine go_eq (pc' := 7) (st' := [.int r1, .int (0 : Int32), .ref v2]) (M' := M2) (lv' := [(0, .ref v0), (1, .int v1), (2, .ref v2)]) ?_ rfl rfl rfl rfl
    refine go_i2l hC dL_deliver_7 ?_
    obtain ⟨h7, h⟩ := os_1 h
    refine go_last hC h7.1 h7.2 dL_deliver_8 ?_
    refine go_goto (t := 15) hC dL_deliver_9 (by decide) ?_
    refine go_iconst hC dL_deliver_15 (v := (0 : Int32)) (by decide +kernel) ?_
    cases h
    exact go_iret hE dL_deliver_16
  · obtain ⟨h6, h⟩ := os_1 h
    by_cases e8 : c5 = 1
    · have h := os_t h e8
      subst e8
      refine go_callVH (pre := []) (en := ⟨0, 9, 12, 13⟩) (suf := []) (hpc := 12) (bytes := cX4_deliver) (maxL := 3) (ret := (some .int)) (n := 1) (As := [.int v1]) (st := [.int (0 : Int32), .ref v2]) hX (cX_X4_deliver K.2.1 hX.2.2 h3) (by unfold okY; decide +kernel) rfl h4 rfl (C := RX4) (T := TX4) (N := 7) rfl m_537 m_534 m_535 m_536 m_2 rfl (by simp [Value.category]) (by decide) (by decide) dL_deliver_4 rfl (fun z hz => absurd hz List.not_mem_nil) (by decide) (by decide) m_110 (by simp [cst, exN]) rfl h6 (fun q9 => ?_)
      refine go_astore_n (lv' := [(3, .ref q9), (0, .ref v0), (1, .int v1), (2, .ref v2)]) hC dL_deliver_12 rfl (by decide) rfl ?_
      refine go_iconst hC dL_deliver_13 (v := (1 : Int32)) (by decide +kernel) ?_
      cases h
      exact go_iret hE dL_deliver_14
    have h := os_f h e8
    cases h
theorem c_L_deliver (l : Launch) (hl : l.stackTraces = false) {x9 : Cx} {k9 : Nat} {M M9 : Mm} {r9 : Int32} {v0 : Nat} {v1 : Int32} {v2 : Nat} (h : fL_deliver x9 k9 v0 v1 v2 M = some (r9, M9)) : FnH l x9 yL_deliver cL_deliver 4 (some .int) [(0, 9, 12, 13)] 13 306 [.ref v0, .int v1, .ref v2] M (some (.int r9)) M9 :=
  FnH.of hl (by decide +kernel) (Nat.le_of_ble_eq_true rfl) rfl (fun K _ hX => tL_deliver_0 hX _ _ _ _ h)
/-! L_drop -/
def fL_drop (x9 : Cx) (k9 : Nat) (v0 : Nat) (v1 : Int32) (v2 : Nat) (M : Mm) : Option (Int32 × Mm) :=
  if mK M v0 = 5 then obH (fX4_drop x9 k9 v0 v1 M) (fun r1 M2 => if mK M2 v2 = 12 ∧ ¬ ((0 : Int32) < 0 ∨ mN M2 v2 ≤ ((0 : Int32)).toNatClampNeg) then some ((0 : Int32), (sJ M2 v2 ((0 : Int32)).toNatClampNeg (r1).toInt64)) else none) (fun c5 M2 => if mX M2 + 1 ≤ xC x9 ∧ mS M2 + 6 ≤ xL x9 then if c5 = 1 then some ((1 : Int32), (sX M2 (mX M2 + 1) (mS M2 + 6))) else none else none) else none
set_option maxRecDepth 100000 in
set_option maxHeartbeats 4000000 in
theorem tL_drop_0 {x9 : Cx} {K : Ct} {k9 : Nat} {M0 M9 : Mm} {r9 : Int32} (hX : CeH x9 K RL cL_drop 4 (some .int) [(0, 9, 12, 13)] 9 152 "drop" M0) (v0 : Nat) (v1 : Int32) (v2 : Nat) (M : Mm) (h : fL_drop x9 k9 v0 v1 v2 M = some (r9, M9)) : Go x9 K 4 (Qf x9 K M0 (some (.int r9)) M9) 0 [(0, .ref v0), (1, .int v1), (2, .ref v2)] [] M := by
  have hE := hX.1
  have hC := hE.1
  unfold fL_drop at h
  refine go_aload_n hC dL_drop_0 rfl 2 rfl ?_
  refine go_iconst hC dL_drop_1 (v := (0 : Int32)) (by decide +kernel) ?_
  refine go_aload_n hC dL_drop_2 rfl 0 rfl ?_
  refine go_iload_n hC dL_drop_3 rfl 1 rfl ?_
  obtain ⟨h4, h⟩ := os_1 h
  rcases os_H h with ⟨r1, M2, h3, h⟩ | ⟨c5, M2, h3, h⟩
  · refine go_callV (bytes := cX4_drop) (maxL := 2) (ret := (some .int)) (n := 1) (As := [.int v1]) (st := [.int (0 : Int32), .ref v2]) hE (c_X4_drop K.2.1 h3) (by unfold okY; decide +kernel) rfl h4 rfl (C := RX4) (T := TX4) (N := 7) rfl m_638 m_635 m_636 m_637 m_2 rfl (by simp [Value.category]) (by decide) (by decide) dL_drop_4 ?_
    refine go_eq (pc' := 7) (st' := [.int r1, .int (0 : Int32), .ref v2]) (M' := M2) (lv' := [(0, .ref v0), (1, .int v1), (2, .ref v2)]) ?_ rfl rfl rfl rfl
    refine go_i2l hC dL_drop_7 ?_
    obtain ⟨h7, h⟩ := os_1 h
    refine go_last hC h7.1 h7.2 dL_drop_8 ?_
    refine go_goto (t := 15) hC dL_drop_9 (by decide) ?_
    refine go_iconst hC dL_drop_15 (v := (0 : Int32)) (by decide +kernel) ?_
    cases h
    exact go_iret hE dL_drop_16
  · obtain ⟨h6, h⟩ := os_1 h
    by_cases e8 : c5 = 1
    · have h := os_t h e8
      subst e8
      refine go_callVH (pre := []) (en := ⟨0, 9, 12, 13⟩) (suf := []) (hpc := 12) (bytes := cX4_drop) (maxL := 2) (ret := (some .int)) (n := 1) (As := [.int v1]) (st := [.int (0 : Int32), .ref v2]) hX (cX_X4_drop K.2.1 hX.2.2 h3) (by unfold okY; decide +kernel) rfl h4 rfl (C := RX4) (T := TX4) (N := 7) rfl m_638 m_635 m_636 m_637 m_2 rfl (by simp [Value.category]) (by decide) (by decide) dL_drop_4 rfl (fun z hz => absurd hz List.not_mem_nil) (by decide) (by decide) m_110 (by simp [cst, exN]) rfl h6 (fun q9 => ?_)
      refine go_astore_n (lv' := [(3, .ref q9), (0, .ref v0), (1, .int v1), (2, .ref v2)]) hC dL_drop_12 rfl (by decide) rfl ?_
      refine go_iconst hC dL_drop_13 (v := (1 : Int32)) (by decide +kernel) ?_
      cases h
      exact go_iret hE dL_drop_14
    have h := os_f h e8
    cases h
theorem c_L_drop (l : Launch) (hl : l.stackTraces = false) {x9 : Cx} {k9 : Nat} {M M9 : Mm} {r9 : Int32} {v0 : Nat} {v1 : Int32} {v2 : Nat} (h : fL_drop x9 k9 v0 v1 v2 M = some (r9, M9)) : FnH l x9 yL_drop cL_drop 4 (some .int) [(0, 9, 12, 13)] 9 152 [.ref v0, .int v1, .ref v2] M (some (.int r9)) M9 :=
  FnH.of hl (by decide +kernel) (Nat.le_of_ble_eq_true rfl) rfl (fun K _ hX => tL_drop_0 hX _ _ _ _ h)
/-! L_copy -/
def fL_copy_15 (x9 : Cx) (k9 : Nat) (s0 : Nat) (s1 : Int32) (s2 : Int64) (M : Mm) : Option (Int32 × Mm) :=
  if mK M s0 = 12 ∧ ¬ (s1 < 0 ∨ mN M s0 ≤ (s1).toNatClampNeg) then some ((0 : Int32), (sJ M s0 (s1).toNatClampNeg s2)) else none
set_option maxRecDepth 100000 in
set_option maxHeartbeats 4000000 in
theorem tL_copy_15 {x9 : Cx} {K : Ct} {k9 : Nat} {M0 M9 : Mm} {r9 : Int32} (hX : CeH x9 K RL cL_copy 4 (some .int) [(0, 16, 19, 13)] 9 192 "copy" M0) (s0 : Nat) (s1 : Int32) (s2 : Int64) (M : Mm) (h : fL_copy_15 x9 k9 s0 s1 s2 M = some (r9, M9)) : Go x9 K 4 (Qf x9 K M0 (some (.int r9)) M9) 15 [] [.long s2, .int s1, .ref s0] M := by
  have hE := hX.1
  have hC := hE.1
  unfold fL_copy_15 at h
  obtain ⟨h1, h⟩ := os_1 h
  refine go_last hC h1.1 h1.2 dL_copy_15 ?_
  refine go_goto (t := 22) hC dL_copy_16 (by decide) ?_
  refine go_iconst hC dL_copy_22 (v := (0 : Int32)) (by decide +kernel) ?_
  cases h
  exact go_iret hE dL_copy_23
def fL_copy (x9 : Cx) (k9 : Nat) (v0 : Nat) (v1 : Int32) (v2 : Nat) (M : Mm) : Option (Int32 × Mm) :=
  if mK M v0 = 5 then obH (fX4_copy x9 k9 v0 v1 M) (fun r1 M2 => if r1 = 0 then fL_copy_15 x9 k9 v2 (0 : Int32) (0 : Int64) M2 else fL_copy_15 x9 k9 v2 (0 : Int32) (1 : Int64) M2) (fun c5 M2 => if mX M2 + 1 ≤ xC x9 ∧ mS M2 + 6 ≤ xL x9 then if c5 = 1 then some ((1 : Int32), (sX M2 (mX M2 + 1) (mS M2 + 6))) else none else none) else none
set_option maxRecDepth 100000 in
set_option maxHeartbeats 4000000 in
theorem tL_copy_0 {x9 : Cx} {K : Ct} {k9 : Nat} {M0 M9 : Mm} {r9 : Int32} (hX : CeH x9 K RL cL_copy 4 (some .int) [(0, 16, 19, 13)] 9 192 "copy" M0) (v0 : Nat) (v1 : Int32) (v2 : Nat) (M : Mm) (h : fL_copy x9 k9 v0 v1 v2 M = some (r9, M9)) : Go x9 K 4 (Qf x9 K M0 (some (.int r9)) M9) 0 [(0, .ref v0), (1, .int v1), (2, .ref v2)] [] M := by
  have hE := hX.1
  have hC := hE.1
  unfold fL_copy at h
  refine go_aload_n hC dL_copy_0 rfl 2 rfl ?_
  refine go_iconst hC dL_copy_1 (v := (0 : Int32)) (by decide +kernel) ?_
  refine go_aload_n hC dL_copy_2 rfl 0 rfl ?_
  refine go_iload_n hC dL_copy_3 rfl 1 rfl ?_
  obtain ⟨h4, h⟩ := os_1 h
  rcases os_H h with ⟨r1, M2, h3, h⟩ | ⟨c5, M2, h3, h⟩
  · refine go_callV (bytes := cX4_copy) (maxL := 2) (ret := (some .boolean)) (n := 1) (As := [.int v1]) (st := [.int (0 : Int32), .ref v2]) hE (c_X4_copy K.2.1 h3) (by unfold okY; decide +kernel) rfl h4 rfl (C := RX4) (T := TX4) (N := 7) rfl m_649 m_646 m_647 m_648 m_2 rfl (by simp [Value.category]) (by decide) (by decide) dL_copy_4 ?_
    refine go_eq (pc' := 7) (st' := [.int r1, .int (0 : Int32), .ref v2]) (M' := M2) (lv' := [(0, .ref v0), (1, .int v1), (2, .ref v2)]) ?_ rfl rfl rfl rfl
    refine go_if_eq (t := 14) hC dL_copy_7 (by decide) (fun c7 => ?_) (fun c7 => ?_)
    · have h := os_t h c7
      refine go_lconst hC dL_copy_14 (v := (0 : Int64)) (by decide +kernel) ?_
      refine go_sub (lv' := []) [] rfl ?_
      exact tL_copy_15 hX _ _ _ _ h
    · have h := os_f h c7
      refine go_lconst hC dL_copy_10 (v := (1 : Int64)) (by decide +kernel) ?_
      refine go_goto (t := 15) hC dL_copy_11 (by decide) ?_
      refine go_sub (lv' := []) [] rfl ?_
      exact tL_copy_15 hX _ _ _ _ h
  · obtain ⟨h6, h⟩ := os_1 h
    by_cases e8 : c5 = 1
    · have h := os_t h e8
      subst e8
      refine go_callVH (pre := []) (en := ⟨0, 16, 19, 13⟩) (suf := []) (hpc := 19) (bytes := cX4_copy) (maxL := 2) (ret := (some .boolean)) (n := 1) (As := [.int v1]) (st := [.int (0 : Int32), .ref v2]) hX (cX_X4_copy K.2.1 hX.2.2 h3) (by unfold okY; decide +kernel) rfl h4 rfl (C := RX4) (T := TX4) (N := 7) rfl m_649 m_646 m_647 m_648 m_2 rfl (by simp [Value.category]) (by decide) (by decide) dL_copy_4 rfl (fun z hz => absurd hz List.not_mem_nil) (by decide) (by decide) m_110 (by simp [cst, exN]) rfl h6 (fun q9 => ?_)
      refine go_astore_n (lv' := [(3, .ref q9), (0, .ref v0), (1, .int v1), (2, .ref v2)]) hC dL_copy_19 rfl (by decide) rfl ?_
      refine go_iconst hC dL_copy_20 (v := (1 : Int32)) (by decide +kernel) ?_
      cases h
      exact go_iret hE dL_copy_21
    have h := os_f h e8
    cases h
theorem c_L_copy (l : Launch) (hl : l.stackTraces = false) {x9 : Cx} {k9 : Nat} {M M9 : Mm} {r9 : Int32} {v0 : Nat} {v1 : Int32} {v2 : Nat} (h : fL_copy x9 k9 v0 v1 v2 M = some (r9, M9)) : FnH l x9 yL_copy cL_copy 4 (some .int) [(0, 16, 19, 13)] 9 192 [.ref v0, .int v1, .ref v2] M (some (.int r9)) M9 :=
  FnH.of hl (by decide +kernel) (Nat.le_of_ble_eq_true rfl) rfl (fun K _ hX => tL_copy_0 hX _ _ _ _ h)
/-! L_byteOf -/
def fL_byteOf (x9 : Cx) (k9 : Nat) (v0 : Nat) (v1 : Int32) (v2 : Int32) (v3 : Nat) (M : Mm) : Option (Int32 × Mm) :=
  if mK M v0 = 5 then obH (fX4_byteOf x9 k9 v0 v1 v2 M) (fun r1 M2 => if mK M2 v3 = 12 ∧ ¬ ((0 : Int32) < 0 ∨ mN M2 v3 ≤ ((0 : Int32)).toNatClampNeg) then some ((0 : Int32), (sJ M2 v3 ((0 : Int32)).toNatClampNeg (r1).toInt64)) else none) (fun c5 M2 => if mX M2 + 1 ≤ xC x9 ∧ mS M2 + 6 ≤ xL x9 then if c5 = 1 then some ((1 : Int32), (sX M2 (mX M2 + 1) (mS M2 + 6))) else none else none) else none
set_option maxRecDepth 100000 in
set_option maxHeartbeats 4000000 in
theorem tL_byteOf_0 {x9 : Cx} {K : Ct} {k9 : Nat} {M0 M9 : Mm} {r9 : Int32} (hX : CeH x9 K RL cL_byteOf 5 (some .int) [(0, 10, 13, 13)] 9 154 "byteOf" M0) (v0 : Nat) (v1 : Int32) (v2 : Int32) (v3 : Nat) (M : Mm) (h : fL_byteOf x9 k9 v0 v1 v2 v3 M = some (r9, M9)) : Go x9 K 5 (Qf x9 K M0 (some (.int r9)) M9) 0 [(0, .ref v0), (1, .int v1), (2, .int v2), (3, .ref v3)] [] M := by
  have hE := hX.1
  have hC := hE.1
  unfold fL_byteOf at h
  refine go_aload_n hC dL_byteOf_0 rfl 3 rfl ?_
  refine go_iconst hC dL_byteOf_1 (v := (0 : Int32)) (by decide +kernel) ?_
  refine go_aload_n hC dL_byteOf_2 rfl 0 rfl ?_
  refine go_iload_n hC dL_byteOf_3 rfl 1 rfl ?_
  refine go_iload_n hC dL_byteOf_4 rfl 2 rfl ?_
  obtain ⟨h4, h⟩ := os_1 h
  rcases os_H h with ⟨r1, M2, h3, h⟩ | ⟨c5, M2, h3, h⟩
  · refine go_callV (bytes := cX4_byteOf) (maxL := 4) (ret := (some .int)) (n := 2) (As := [.int v1, .int v2]) (st := [.int (0 : Int32), .ref v3]) hE (c_X4_byteOf K.2.1 h3) (by unfold okY; decide +kernel) rfl h4 rfl (C := RX4) (T := TX4) (N := 7) rfl m_660 m_657 m_658 m_659 m_2 rfl (by simp [Value.category]) (by decide) (by decide) dL_byteOf_5 ?_
    refine go_eq (pc' := 8) (st' := [.int r1, .int (0 : Int32), .ref v3]) (M' := M2) (lv' := [(0, .ref v0), (1, .int v1), (2, .int v2), (3, .ref v3)]) ?_ rfl rfl rfl rfl
    refine go_i2l hC dL_byteOf_8 ?_
    obtain ⟨h7, h⟩ := os_1 h
    refine go_last hC h7.1 h7.2 dL_byteOf_9 ?_
    refine go_goto (t := 17) hC dL_byteOf_10 (by decide) ?_
    refine go_iconst hC dL_byteOf_17 (v := (0 : Int32)) (by decide +kernel) ?_
    cases h
    exact go_iret hE dL_byteOf_18
  · obtain ⟨h6, h⟩ := os_1 h
    by_cases e8 : c5 = 1
    · have h := os_t h e8
      subst e8
      refine go_callVH (pre := []) (en := ⟨0, 10, 13, 13⟩) (suf := []) (hpc := 13) (bytes := cX4_byteOf) (maxL := 4) (ret := (some .int)) (n := 2) (As := [.int v1, .int v2]) (st := [.int (0 : Int32), .ref v3]) hX (cX_X4_byteOf K.2.1 hX.2.2 h3) (by unfold okY; decide +kernel) rfl h4 rfl (C := RX4) (T := TX4) (N := 7) rfl m_660 m_657 m_658 m_659 m_2 rfl (by simp [Value.category]) (by decide) (by decide) dL_byteOf_5 rfl (fun z hz => absurd hz List.not_mem_nil) (by decide) (by decide) m_110 (by simp [cst, exN]) rfl h6 (fun q9 => ?_)
      refine go_astore (lv' := [(4, .ref q9), (0, .ref v0), (1, .int v1), (2, .int v2), (3, .ref v3)]) hC dL_byteOf_13 (by decide) rfl ?_
      refine go_iconst hC dL_byteOf_15 (v := (1 : Int32)) (by decide +kernel) ?_
      cases h
      exact go_iret hE dL_byteOf_16
    have h := os_f h e8
    cases h
theorem c_L_byteOf (l : Launch) (hl : l.stackTraces = false) {x9 : Cx} {k9 : Nat} {M M9 : Mm} {r9 : Int32} {v0 : Nat} {v1 : Int32} {v2 : Int32} {v3 : Nat} (h : fL_byteOf x9 k9 v0 v1 v2 v3 M = some (r9, M9)) : FnH l x9 yL_byteOf cL_byteOf 5 (some .int) [(0, 10, 13, 13)] 9 154 [.ref v0, .int v1, .int v2, .ref v3] M (some (.int r9)) M9 :=
  FnH.of hl (by decide +kernel) (Nat.le_of_ble_eq_true rfl) rfl (fun K _ hX => tL_byteOf_0 hX _ _ _ _ _ h)
/-! L_crash -/
def fL_crash (x9 : Cx) (k9 : Nat) (v0 : Nat) (v1 : Int32) (M : Mm) : Option (Int32 × Mm) :=
  if mK M v0 = 5 then obH (fX4_crash x9 k9 v0 v1 M) (fun r1 M2 => some ((0 : Int32), M2)) (fun c5 M2 => if mX M2 + 1 ≤ xC x9 ∧ mS M2 + 6 ≤ xL x9 then if c5 = 1 then some ((1 : Int32), (sX M2 (mX M2 + 1) (mS M2 + 6))) else if c5 = 2 then some ((2 : Int32), (sX M2 (mX M2 + 1) (mS M2 + 6))) else none else none) else none
set_option maxRecDepth 100000 in
set_option maxHeartbeats 4000000 in
theorem tL_crash_0 {x9 : Cx} {K : Ct} {k9 : Nat} {M0 M9 : Mm} {r9 : Int32} (hX : CeH x9 K RL cL_crash 3 (some .int) [(0, 5, 8, 13), (0, 5, 11, 19)] 9 154 "crash" M0) (v0 : Nat) (v1 : Int32) (M : Mm) (h : fL_crash x9 k9 v0 v1 M = some (r9, M9)) : Go x9 K 3 (Qf x9 K M0 (some (.int r9)) M9) 0 [(0, .ref v0), (1, .int v1)] [] M := by
  have hE := hX.1
  have hC := hE.1
  unfold fL_crash at h
  refine go_aload_n hC dL_crash_0 rfl 0 rfl ?_
  refine go_iload_n hC dL_crash_1 rfl 1 rfl ?_
  obtain ⟨h4, h⟩ := os_1 h
  rcases os_H h with ⟨r1, M2, h3, h⟩ | ⟨c5, M2, h3, h⟩
  · refine go_callV (bytes := cX4_crash) (maxL := 4) (ret := none) (n := 1) (As := [.int v1]) (st := []) hE (c_X4_crash K.2.1 h3) (by unfold okY; decide +kernel) rfl h4 rfl (C := RX4) (T := TX4) (N := 7) rfl m_733 m_730 m_731 m_732 m_2 rfl (by simp [Value.category]) (by decide) (by decide) dL_crash_2 ?_
    refine go_eq (pc' := 5) (st' := []) (M' := M2) (lv' := [(0, .ref v0), (1, .int v1)]) ?_ rfl rfl rfl rfl
    refine go_goto (t := 14) hC dL_crash_5 (by decide) ?_
    refine go_iconst hC dL_crash_14 (v := (0 : Int32)) (by decide +kernel) ?_
    cases h
    exact go_iret hE dL_crash_15
  · obtain ⟨h6, h⟩ := os_1 h
    by_cases e7 : c5 = 1
    · have h := os_t h e7
      subst e7
      refine go_callVH (pre := []) (en := ⟨0, 5, 8, 13⟩) (suf := [⟨0, 5, 11, 19⟩]) (hpc := 8) (bytes := cX4_crash) (maxL := 4) (ret := none) (n := 1) (As := [.int v1]) (st := []) hX (cX_X4_crash K.2.1 hX.2.2 h3) (by unfold okY; decide +kernel) rfl h4 rfl (C := RX4) (T := TX4) (N := 7) rfl m_733 m_730 m_731 m_732 m_2 rfl (by simp [Value.category]) (by decide) (by decide) dL_crash_2 rfl (fun z hz => absurd hz List.not_mem_nil) (by decide) (by decide) m_110 (by simp [cst, exN]) rfl h6 (fun q9 => ?_)
      refine go_astore_n (lv' := [(2, .ref q9), (0, .ref v0), (1, .int v1)]) hC dL_crash_8 rfl (by decide) rfl ?_
      refine go_iconst hC dL_crash_9 (v := (1 : Int32)) (by decide +kernel) ?_
      cases h
      exact go_iret hE dL_crash_10
    have h := os_f h e7
    by_cases e8 : c5 = 2
    · have h := os_t h e8
      subst e8
      refine go_callVH (pre := [⟨0, 5, 8, 13⟩]) (en := ⟨0, 5, 11, 19⟩) (suf := []) (hpc := 11) (bytes := cX4_crash) (maxL := 4) (ret := none) (n := 1) (As := [.int v1]) (st := []) hX (cX_X4_crash K.2.1 hX.2.2 h3) (by unfold okY; decide +kernel) rfl h4 rfl (C := RX4) (T := TX4) (N := 7) rfl m_733 m_730 m_731 m_732 m_2 rfl (by simp [Value.category]) (by decide) (by decide) dL_crash_2 rfl (fun z hz => by rcases List.mem_singleton.mp hz with rfl; exact ⟨by decide, by decide, _, m_110, fun s H h => h.2.2.2.2.2.2.2.2.2.2.2.2.1⟩) (by decide) (by decide) m_136 (by simp [cst, exN]) rfl h6 (fun q9 => ?_)
      refine go_astore_n (lv' := [(2, .ref q9), (0, .ref v0), (1, .int v1)]) hC dL_crash_11 rfl (by decide) rfl ?_
      refine go_iconst hC dL_crash_12 (v := (2 : Int32)) (by decide +kernel) ?_
      cases h
      exact go_iret hE dL_crash_13
    have h := os_f h e8
    cases h
theorem c_L_crash (l : Launch) (hl : l.stackTraces = false) {x9 : Cx} {k9 : Nat} {M M9 : Mm} {r9 : Int32} {v0 : Nat} {v1 : Int32} (h : fL_crash x9 k9 v0 v1 M = some (r9, M9)) : FnH l x9 yL_crash cL_crash 3 (some .int) [(0, 5, 8, 13), (0, 5, 11, 19)] 9 154 [.ref v0, .int v1] M (some (.int r9)) M9 :=
  FnH.of hl (by decide +kernel) (Nat.le_of_ble_eq_true rfl) rfl (fun K _ hX => tL_crash_0 hX _ _ _ h)
/-! L_restart -/
def fL_restart (x9 : Cx) (k9 : Nat) (v0 : Nat) (v1 : Int32) (M : Mm) : Option (Int32 × Mm) :=
  if mK M v0 = 5 then obH (fX4_restart x9 k9 v0 v1 M) (fun r1 M2 => some ((0 : Int32), M2)) (fun c5 M2 => if mX M2 + 1 ≤ xC x9 ∧ mS M2 + 6 ≤ xL x9 then if c5 = 1 then some ((1 : Int32), (sX M2 (mX M2 + 1) (mS M2 + 6))) else if c5 = 2 then some ((2 : Int32), (sX M2 (mX M2 + 1) (mS M2 + 6))) else none else none) else none
set_option maxRecDepth 100000 in
set_option maxHeartbeats 4000000 in
theorem tL_restart_0 {x9 : Cx} {K : Ct} {k9 : Nat} {M0 M9 : Mm} {r9 : Int32} (hX : CeH x9 K RL cL_restart 3 (some .int) [(0, 5, 8, 13), (0, 5, 11, 19)] 11 263 "restart" M0) (v0 : Nat) (v1 : Int32) (M : Mm) (h : fL_restart x9 k9 v0 v1 M = some (r9, M9)) : Go x9 K 3 (Qf x9 K M0 (some (.int r9)) M9) 0 [(0, .ref v0), (1, .int v1)] [] M := by
  have hE := hX.1
  have hC := hE.1
  unfold fL_restart at h
  refine go_aload_n hC dL_restart_0 rfl 0 rfl ?_
  refine go_iload_n hC dL_restart_1 rfl 1 rfl ?_
  obtain ⟨h4, h⟩ := os_1 h
  rcases os_H h with ⟨r1, M2, h3, h⟩ | ⟨c5, M2, h3, h⟩
  · refine go_callV (bytes := cX4_restart) (maxL := 4) (ret := none) (n := 1) (As := [.int v1]) (st := []) hE (c_X4_restart K.2.1 h3) (by unfold okY; decide +kernel) rfl h4 rfl (C := RX4) (T := TX4) (N := 7) rfl m_748 m_745 m_746 m_747 m_2 rfl (by simp [Value.category]) (by decide) (by decide) dL_restart_2 ?_
    refine go_eq (pc' := 5) (st' := []) (M' := M2) (lv' := [(0, .ref v0), (1, .int v1)]) ?_ rfl rfl rfl rfl
    refine go_goto (t := 14) hC dL_restart_5 (by decide) ?_
    refine go_iconst hC dL_restart_14 (v := (0 : Int32)) (by decide +kernel) ?_
    cases h
    exact go_iret hE dL_restart_15
  · obtain ⟨h6, h⟩ := os_1 h
    by_cases e7 : c5 = 1
    · have h := os_t h e7
      subst e7
      refine go_callVH (pre := []) (en := ⟨0, 5, 8, 13⟩) (suf := [⟨0, 5, 11, 19⟩]) (hpc := 8) (bytes := cX4_restart) (maxL := 4) (ret := none) (n := 1) (As := [.int v1]) (st := []) hX (cX_X4_restart K.2.1 hX.2.2 h3) (by unfold okY; decide +kernel) rfl h4 rfl (C := RX4) (T := TX4) (N := 7) rfl m_748 m_745 m_746 m_747 m_2 rfl (by simp [Value.category]) (by decide) (by decide) dL_restart_2 rfl (fun z hz => absurd hz List.not_mem_nil) (by decide) (by decide) m_110 (by simp [cst, exN]) rfl h6 (fun q9 => ?_)
      refine go_astore_n (lv' := [(2, .ref q9), (0, .ref v0), (1, .int v1)]) hC dL_restart_8 rfl (by decide) rfl ?_
      refine go_iconst hC dL_restart_9 (v := (1 : Int32)) (by decide +kernel) ?_
      cases h
      exact go_iret hE dL_restart_10
    have h := os_f h e7
    by_cases e8 : c5 = 2
    · have h := os_t h e8
      subst e8
      refine go_callVH (pre := [⟨0, 5, 8, 13⟩]) (en := ⟨0, 5, 11, 19⟩) (suf := []) (hpc := 11) (bytes := cX4_restart) (maxL := 4) (ret := none) (n := 1) (As := [.int v1]) (st := []) hX (cX_X4_restart K.2.1 hX.2.2 h3) (by unfold okY; decide +kernel) rfl h4 rfl (C := RX4) (T := TX4) (N := 7) rfl m_748 m_745 m_746 m_747 m_2 rfl (by simp [Value.category]) (by decide) (by decide) dL_restart_2 rfl (fun z hz => by rcases List.mem_singleton.mp hz with rfl; exact ⟨by decide, by decide, _, m_110, fun s H h => h.2.2.2.2.2.2.2.2.2.2.2.2.1⟩) (by decide) (by decide) m_136 (by simp [cst, exN]) rfl h6 (fun q9 => ?_)
      refine go_astore_n (lv' := [(2, .ref q9), (0, .ref v0), (1, .int v1)]) hC dL_restart_11 rfl (by decide) rfl ?_
      refine go_iconst hC dL_restart_12 (v := (2 : Int32)) (by decide +kernel) ?_
      cases h
      exact go_iret hE dL_restart_13
    have h := os_f h e8
    cases h
theorem c_L_restart (l : Launch) (hl : l.stackTraces = false) {x9 : Cx} {k9 : Nat} {M M9 : Mm} {r9 : Int32} {v0 : Nat} {v1 : Int32} (h : fL_restart x9 k9 v0 v1 M = some (r9, M9)) : FnH l x9 yL_restart cL_restart 3 (some .int) [(0, 5, 8, 13), (0, 5, 11, 19)] 11 263 [.ref v0, .int v1] M (some (.int r9)) M9 :=
  FnH.of hl (by decide +kernel) (Nat.le_of_ble_eq_true rfl) rfl (fun K _ hX => tL_restart_0 hX _ _ _ h)
/-! L_about -/
def fL_about (x9 : Cx) (k9 : Nat) (v0 : Nat) (v1 : Int32) (v2 : Int32) (v3 : Nat) (M : Mm) : Option (Int32 × Mm) :=
  if mK M v0 = 5 then obH (fX4_about x9 k9 v0 v1 v2 M) (fun r1 M2 => if mK M2 v3 = 12 ∧ ¬ ((0 : Int32) < 0 ∨ mN M2 v3 ≤ ((0 : Int32)).toNatClampNeg) then some ((0 : Int32), (sJ M2 v3 ((0 : Int32)).toNatClampNeg (r1).toInt64)) else none) (fun c5 M2 => if mX M2 + 1 ≤ xC x9 ∧ mS M2 + 6 ≤ xL x9 then if c5 = 1 then some ((1 : Int32), (sX M2 (mX M2 + 1) (mS M2 + 6))) else none else none) else none
set_option maxRecDepth 100000 in
set_option maxHeartbeats 4000000 in
theorem tL_about_0 {x9 : Cx} {K : Ct} {k9 : Nat} {M0 M9 : Mm} {r9 : Int32} (hX : CeH x9 K RL cL_about 5 (some .int) [(0, 10, 13, 13)] 9 154 "about" M0) (v0 : Nat) (v1 : Int32) (v2 : Int32) (v3 : Nat) (M : Mm) (h : fL_about x9 k9 v0 v1 v2 v3 M = some (r9, M9)) : Go x9 K 5 (Qf x9 K M0 (some (.int r9)) M9) 0 [(0, .ref v0), (1, .int v1), (2, .int v2), (3, .ref v3)] [] M := by
  have hE := hX.1
  have hC := hE.1
  unfold fL_about at h
  refine go_aload_n hC dL_about_0 rfl 3 rfl ?_
  refine go_iconst hC dL_about_1 (v := (0 : Int32)) (by decide +kernel) ?_
  refine go_aload_n hC dL_about_2 rfl 0 rfl ?_
  refine go_iload_n hC dL_about_3 rfl 1 rfl ?_
  refine go_iload_n hC dL_about_4 rfl 2 rfl ?_
  obtain ⟨h4, h⟩ := os_1 h
  rcases os_H h with ⟨r1, M2, h3, h⟩ | ⟨c5, M2, h3, h⟩
  · refine go_callV (bytes := cX4_about) (maxL := 4) (ret := (some .int)) (n := 2) (As := [.int v1, .int v2]) (st := [.int (0 : Int32), .ref v3]) hE (c_X4_about K.2.1 h3) (by unfold okY; decide +kernel) rfl h4 rfl (C := RX4) (T := TX4) (N := 7) rfl m_759 m_756 m_757 m_758 m_2 rfl (by simp [Value.category]) (by decide) (by decide) dL_about_5 ?_
    refine go_eq (pc' := 8) (st' := [.int r1, .int (0 : Int32), .ref v3]) (M' := M2) (lv' := [(0, .ref v0), (1, .int v1), (2, .int v2), (3, .ref v3)]) ?_ rfl rfl rfl rfl
    refine go_i2l hC dL_about_8 ?_
    obtain ⟨h7, h⟩ := os_1 h
    refine go_last hC h7.1 h7.2 dL_about_9 ?_
    refine go_goto (t := 17) hC dL_about_10 (by decide) ?_
    refine go_iconst hC dL_about_17 (v := (0 : Int32)) (by decide +kernel) ?_
    cases h
    exact go_iret hE dL_about_18
  · obtain ⟨h6, h⟩ := os_1 h
    by_cases e8 : c5 = 1
    · have h := os_t h e8
      subst e8
      refine go_callVH (pre := []) (en := ⟨0, 10, 13, 13⟩) (suf := []) (hpc := 13) (bytes := cX4_about) (maxL := 4) (ret := (some .int)) (n := 2) (As := [.int v1, .int v2]) (st := [.int (0 : Int32), .ref v3]) hX (cX_X4_about K.2.1 hX.2.2 h3) (by unfold okY; decide +kernel) rfl h4 rfl (C := RX4) (T := TX4) (N := 7) rfl m_759 m_756 m_757 m_758 m_2 rfl (by simp [Value.category]) (by decide) (by decide) dL_about_5 rfl (fun z hz => absurd hz List.not_mem_nil) (by decide) (by decide) m_110 (by simp [cst, exN]) rfl h6 (fun q9 => ?_)
      refine go_astore (lv' := [(4, .ref q9), (0, .ref v0), (1, .int v1), (2, .int v2), (3, .ref v3)]) hC dL_about_13 (by decide) rfl ?_
      refine go_iconst hC dL_about_15 (v := (1 : Int32)) (by decide +kernel) ?_
      cases h
      exact go_iret hE dL_about_16
    have h := os_f h e8
    cases h
theorem c_L_about (l : Launch) (hl : l.stackTraces = false) {x9 : Cx} {k9 : Nat} {M M9 : Mm} {r9 : Int32} {v0 : Nat} {v1 : Int32} {v2 : Int32} {v3 : Nat} (h : fL_about x9 k9 v0 v1 v2 v3 M = some (r9, M9)) : FnH l x9 yL_about cL_about 5 (some .int) [(0, 10, 13, 13)] 9 154 [.ref v0, .int v1, .int v2, .ref v3] M (some (.int r9)) M9 :=
  FnH.of hl (by decide +kernel) (Nat.le_of_ble_eq_true rfl) rfl (fun K _ hX => tL_about_0 hX _ _ _ _ _ h)
/-! L_vector -/
def fL_vector (x9 : Cx) (k9 : Nat) (v0 : Nat) (v1 : Int32) (v2 : Int32) (v3 : Nat) (M : Mm) : Option (Int32 × Mm) :=
  if mK M v0 = 5 then obH (fX4_vector x9 k9 v0 v1 v2 M) (fun r1 M2 => if mK M2 v3 = 12 ∧ ¬ ((0 : Int32) < 0 ∨ mN M2 v3 ≤ ((0 : Int32)).toNatClampNeg) then some ((0 : Int32), (sJ M2 v3 ((0 : Int32)).toNatClampNeg (r1).toInt64)) else none) (fun c5 M2 => if mX M2 + 1 ≤ xC x9 ∧ mS M2 + 6 ≤ xL x9 then if c5 = 1 then some ((1 : Int32), (sX M2 (mX M2 + 1) (mS M2 + 6))) else none else none) else none
set_option maxRecDepth 100000 in
set_option maxHeartbeats 4000000 in
theorem tL_vector_0 {x9 : Cx} {K : Ct} {k9 : Nat} {M0 M9 : Mm} {r9 : Int32} (hX : CeH x9 K RL cL_vector 5 (some .int) [(0, 10, 13, 13)] 9 153 "vector" M0) (v0 : Nat) (v1 : Int32) (v2 : Int32) (v3 : Nat) (M : Mm) (h : fL_vector x9 k9 v0 v1 v2 v3 M = some (r9, M9)) : Go x9 K 5 (Qf x9 K M0 (some (.int r9)) M9) 0 [(0, .ref v0), (1, .int v1), (2, .int v2), (3, .ref v3)] [] M := by
  have hE := hX.1
  have hC := hE.1
  unfold fL_vector at h
  refine go_aload_n hC dL_vector_0 rfl 3 rfl ?_
  refine go_iconst hC dL_vector_1 (v := (0 : Int32)) (by decide +kernel) ?_
  refine go_aload_n hC dL_vector_2 rfl 0 rfl ?_
  refine go_iload_n hC dL_vector_3 rfl 1 rfl ?_
  refine go_iload_n hC dL_vector_4 rfl 2 rfl ?_
  obtain ⟨h4, h⟩ := os_1 h
  rcases os_H h with ⟨r1, M2, h3, h⟩ | ⟨c5, M2, h3, h⟩
  · refine go_callV (bytes := cX4_vector) (maxL := 3) (ret := (some .int)) (n := 2) (As := [.int v1, .int v2]) (st := [.int (0 : Int32), .ref v3]) hE (c_X4_vector K.2.1 h3) (by unfold okY; decide +kernel) rfl h4 rfl (C := RX4) (T := TX4) (N := 7) rfl m_770 m_767 m_768 m_769 m_2 rfl (by simp [Value.category]) (by decide) (by decide) dL_vector_5 ?_
    refine go_eq (pc' := 8) (st' := [.int r1, .int (0 : Int32), .ref v3]) (M' := M2) (lv' := [(0, .ref v0), (1, .int v1), (2, .int v2), (3, .ref v3)]) ?_ rfl rfl rfl rfl
    refine go_i2l hC dL_vector_8 ?_
    obtain ⟨h7, h⟩ := os_1 h
    refine go_last hC h7.1 h7.2 dL_vector_9 ?_
    refine go_goto (t := 17) hC dL_vector_10 (by decide) ?_
    refine go_iconst hC dL_vector_17 (v := (0 : Int32)) (by decide +kernel) ?_
    cases h
    exact go_iret hE dL_vector_18
  · obtain ⟨h6, h⟩ := os_1 h
    by_cases e8 : c5 = 1
    · have h := os_t h e8
      subst e8
      refine go_callVH (pre := []) (en := ⟨0, 10, 13, 13⟩) (suf := []) (hpc := 13) (bytes := cX4_vector) (maxL := 3) (ret := (some .int)) (n := 2) (As := [.int v1, .int v2]) (st := [.int (0 : Int32), .ref v3]) hX (cX_X4_vector K.2.1 hX.2.2 h3) (by unfold okY; decide +kernel) rfl h4 rfl (C := RX4) (T := TX4) (N := 7) rfl m_770 m_767 m_768 m_769 m_2 rfl (by simp [Value.category]) (by decide) (by decide) dL_vector_5 rfl (fun z hz => absurd hz List.not_mem_nil) (by decide) (by decide) m_110 (by simp [cst, exN]) rfl h6 (fun q9 => ?_)
      refine go_astore (lv' := [(4, .ref q9), (0, .ref v0), (1, .int v1), (2, .int v2), (3, .ref v3)]) hC dL_vector_13 (by decide) rfl ?_
      refine go_iconst hC dL_vector_15 (v := (1 : Int32)) (by decide +kernel) ?_
      cases h
      exact go_iret hE dL_vector_16
    have h := os_f h e8
    cases h
theorem c_L_vector (l : Launch) (hl : l.stackTraces = false) {x9 : Cx} {k9 : Nat} {M M9 : Mm} {r9 : Int32} {v0 : Nat} {v1 : Int32} {v2 : Int32} {v3 : Nat} (h : fL_vector x9 k9 v0 v1 v2 v3 M = some (r9, M9)) : FnH l x9 yL_vector cL_vector 5 (some .int) [(0, 10, 13, 13)] 9 153 [.ref v0, .int v1, .int v2, .ref v3] M (some (.int r9)) M9 :=
  FnH.of hl (by decide +kernel) (Nat.le_of_ble_eq_true rfl) rfl (fun K _ hX => tL_vector_0 hX _ _ _ _ _ h)
/-! L_value -/
def fL_value (x9 : Cx) (k9 : Nat) (v0 : Nat) (v1 : Int32) (v2 : Int32) (v3 : Nat) (M : Mm) : Option (Int32 × Mm) :=
  if mK M v0 = 5 then obH (fX4_value x9 k9 v0 v1 v2 M) (fun r1 M2 => if mK M2 v3 = 12 ∧ ¬ ((0 : Int32) < 0 ∨ mN M2 v3 ≤ ((0 : Int32)).toNatClampNeg) then some ((0 : Int32), (sJ M2 v3 ((0 : Int32)).toNatClampNeg (r1).toInt64)) else none) (fun c5 M2 => if mX M2 + 1 ≤ xC x9 ∧ mS M2 + 6 ≤ xL x9 then if c5 = 1 then some ((1 : Int32), (sX M2 (mX M2 + 1) (mS M2 + 6))) else none else none) else none
set_option maxRecDepth 100000 in
set_option maxHeartbeats 4000000 in
theorem tL_value_0 {x9 : Cx} {K : Ct} {k9 : Nat} {M0 M9 : Mm} {r9 : Int32} (hX : CeH x9 K RL cL_value 5 (some .int) [(0, 10, 13, 13)] 9 153 "value" M0) (v0 : Nat) (v1 : Int32) (v2 : Int32) (v3 : Nat) (M : Mm) (h : fL_value x9 k9 v0 v1 v2 v3 M = some (r9, M9)) : Go x9 K 5 (Qf x9 K M0 (some (.int r9)) M9) 0 [(0, .ref v0), (1, .int v1), (2, .int v2), (3, .ref v3)] [] M := by
  have hE := hX.1
  have hC := hE.1
  unfold fL_value at h
  refine go_aload_n hC dL_value_0 rfl 3 rfl ?_
  refine go_iconst hC dL_value_1 (v := (0 : Int32)) (by decide +kernel) ?_
  refine go_aload_n hC dL_value_2 rfl 0 rfl ?_
  refine go_iload_n hC dL_value_3 rfl 1 rfl ?_
  refine go_iload_n hC dL_value_4 rfl 2 rfl ?_
  obtain ⟨h4, h⟩ := os_1 h
  rcases os_H h with ⟨r1, M2, h3, h⟩ | ⟨c5, M2, h3, h⟩
  · refine go_callV (bytes := cX4_value) (maxL := 3) (ret := (some .int)) (n := 2) (As := [.int v1, .int v2]) (st := [.int (0 : Int32), .ref v3]) hE (c_X4_value K.2.1 h3) (by unfold okY; decide +kernel) rfl h4 rfl (C := RX4) (T := TX4) (N := 7) rfl m_781 m_778 m_779 m_780 m_2 rfl (by simp [Value.category]) (by decide) (by decide) dL_value_5 ?_
    refine go_eq (pc' := 8) (st' := [.int r1, .int (0 : Int32), .ref v3]) (M' := M2) (lv' := [(0, .ref v0), (1, .int v1), (2, .int v2), (3, .ref v3)]) ?_ rfl rfl rfl rfl
    refine go_i2l hC dL_value_8 ?_
    obtain ⟨h7, h⟩ := os_1 h
    refine go_last hC h7.1 h7.2 dL_value_9 ?_
    refine go_goto (t := 17) hC dL_value_10 (by decide) ?_
    refine go_iconst hC dL_value_17 (v := (0 : Int32)) (by decide +kernel) ?_
    cases h
    exact go_iret hE dL_value_18
  · obtain ⟨h6, h⟩ := os_1 h
    by_cases e8 : c5 = 1
    · have h := os_t h e8
      subst e8
      refine go_callVH (pre := []) (en := ⟨0, 10, 13, 13⟩) (suf := []) (hpc := 13) (bytes := cX4_value) (maxL := 3) (ret := (some .int)) (n := 2) (As := [.int v1, .int v2]) (st := [.int (0 : Int32), .ref v3]) hX (cX_X4_value K.2.1 hX.2.2 h3) (by unfold okY; decide +kernel) rfl h4 rfl (C := RX4) (T := TX4) (N := 7) rfl m_781 m_778 m_779 m_780 m_2 rfl (by simp [Value.category]) (by decide) (by decide) dL_value_5 rfl (fun z hz => absurd hz List.not_mem_nil) (by decide) (by decide) m_110 (by simp [cst, exN]) rfl h6 (fun q9 => ?_)
      refine go_astore (lv' := [(4, .ref q9), (0, .ref v0), (1, .int v1), (2, .int v2), (3, .ref v3)]) hC dL_value_13 (by decide) rfl ?_
      refine go_iconst hC dL_value_15 (v := (1 : Int32)) (by decide +kernel) ?_
      cases h
      exact go_iret hE dL_value_16
    have h := os_f h e8
    cases h
theorem c_L_value (l : Launch) (hl : l.stackTraces = false) {x9 : Cx} {k9 : Nat} {M M9 : Mm} {r9 : Int32} {v0 : Nat} {v1 : Int32} {v2 : Int32} {v3 : Nat} (h : fL_value x9 k9 v0 v1 v2 v3 M = some (r9, M9)) : FnH l x9 yL_value cL_value 5 (some .int) [(0, 10, 13, 13)] 9 153 [.ref v0, .int v1, .int v2, .ref v3] M (some (.int r9)) M9 :=
  FnH.of hl (by decide +kernel) (Nat.le_of_ble_eq_true rfl) rfl (fun K _ hX => tL_value_0 hX _ _ _ _ _ h)
/-! L_locked -/
def fL_locked (x9 : Cx) (k9 : Nat) (v0 : Nat) (v1 : Int32) (v2 : Int32) (v3 : Nat) (M : Mm) : Option (Int32 × Mm) :=
  if mK M v0 = 5 then obH (fX4_locked x9 k9 v0 v1 v2 M) (fun r1 M2 => if mK M2 v3 = 12 ∧ ¬ ((0 : Int32) < 0 ∨ mN M2 v3 ≤ ((0 : Int32)).toNatClampNeg) then some ((0 : Int32), (sJ M2 v3 ((0 : Int32)).toNatClampNeg (r1).toInt64)) else none) (fun c5 M2 => if mX M2 + 1 ≤ xC x9 ∧ mS M2 + 6 ≤ xL x9 then if c5 = 1 then some ((1 : Int32), (sX M2 (mX M2 + 1) (mS M2 + 6))) else none else none) else none
set_option maxRecDepth 100000 in
set_option maxHeartbeats 4000000 in
theorem tL_locked_0 {x9 : Cx} {K : Ct} {k9 : Nat} {M0 M9 : Mm} {r9 : Int32} (hX : CeH x9 K RL cL_locked 5 (some .int) [(0, 10, 13, 13)] 9 153 "locked" M0) (v0 : Nat) (v1 : Int32) (v2 : Int32) (v3 : Nat) (M : Mm) (h : fL_locked x9 k9 v0 v1 v2 v3 M = some (r9, M9)) : Go x9 K 5 (Qf x9 K M0 (some (.int r9)) M9) 0 [(0, .ref v0), (1, .int v1), (2, .int v2), (3, .ref v3)] [] M := by
  have hE := hX.1
  have hC := hE.1
  unfold fL_locked at h
  refine go_aload_n hC dL_locked_0 rfl 3 rfl ?_
  refine go_iconst hC dL_locked_1 (v := (0 : Int32)) (by decide +kernel) ?_
  refine go_aload_n hC dL_locked_2 rfl 0 rfl ?_
  refine go_iload_n hC dL_locked_3 rfl 1 rfl ?_
  refine go_iload_n hC dL_locked_4 rfl 2 rfl ?_
  obtain ⟨h4, h⟩ := os_1 h
  rcases os_H h with ⟨r1, M2, h3, h⟩ | ⟨c5, M2, h3, h⟩
  · refine go_callV (bytes := cX4_locked) (maxL := 3) (ret := (some .int)) (n := 2) (As := [.int v1, .int v2]) (st := [.int (0 : Int32), .ref v3]) hE (c_X4_locked K.2.1 h3) (by unfold okY; decide +kernel) rfl h4 rfl (C := RX4) (T := TX4) (N := 7) rfl m_792 m_789 m_790 m_791 m_2 rfl (by simp [Value.category]) (by decide) (by decide) dL_locked_5 ?_
    refine go_eq (pc' := 8) (st' := [.int r1, .int (0 : Int32), .ref v3]) (M' := M2) (lv' := [(0, .ref v0), (1, .int v1), (2, .int v2), (3, .ref v3)]) ?_ rfl rfl rfl rfl
    refine go_i2l hC dL_locked_8 ?_
    obtain ⟨h7, h⟩ := os_1 h
    refine go_last hC h7.1 h7.2 dL_locked_9 ?_
    refine go_goto (t := 17) hC dL_locked_10 (by decide) ?_
    refine go_iconst hC dL_locked_17 (v := (0 : Int32)) (by decide +kernel) ?_
    cases h
    exact go_iret hE dL_locked_18
  · obtain ⟨h6, h⟩ := os_1 h
    by_cases e8 : c5 = 1
    · have h := os_t h e8
      subst e8
      refine go_callVH (pre := []) (en := ⟨0, 10, 13, 13⟩) (suf := []) (hpc := 13) (bytes := cX4_locked) (maxL := 3) (ret := (some .int)) (n := 2) (As := [.int v1, .int v2]) (st := [.int (0 : Int32), .ref v3]) hX (cX_X4_locked K.2.1 hX.2.2 h3) (by unfold okY; decide +kernel) rfl h4 rfl (C := RX4) (T := TX4) (N := 7) rfl m_792 m_789 m_790 m_791 m_2 rfl (by simp [Value.category]) (by decide) (by decide) dL_locked_5 rfl (fun z hz => absurd hz List.not_mem_nil) (by decide) (by decide) m_110 (by simp [cst, exN]) rfl h6 (fun q9 => ?_)
      refine go_astore (lv' := [(4, .ref q9), (0, .ref v0), (1, .int v1), (2, .int v2), (3, .ref v3)]) hC dL_locked_13 (by decide) rfl ?_
      refine go_iconst hC dL_locked_15 (v := (1 : Int32)) (by decide +kernel) ?_
      cases h
      exact go_iret hE dL_locked_16
    have h := os_f h e8
    cases h
theorem c_L_locked (l : Launch) (hl : l.stackTraces = false) {x9 : Cx} {k9 : Nat} {M M9 : Mm} {r9 : Int32} {v0 : Nat} {v1 : Int32} {v2 : Int32} {v3 : Nat} (h : fL_locked x9 k9 v0 v1 v2 v3 M = some (r9, M9)) : FnH l x9 yL_locked cL_locked 5 (some .int) [(0, 10, 13, 13)] 9 153 [.ref v0, .int v1, .int v2, .ref v3] M (some (.int r9)) M9 :=
  FnH.of hl (by decide +kernel) (Nat.le_of_ble_eq_true rfl) rfl (fun K _ hX => tL_locked_0 hX _ _ _ _ _ h)
/-! L_total -/
def fL_total (x9 : Cx) (k9 : Nat) (v0 : Nat) (v1 : Int32) (v2 : Nat) (M : Mm) : Option (Int32 × Mm) :=
  if mK M v0 = 5 then obH (fX4_total x9 k9 v0 v1 M) (fun r1 M2 => if mK M2 v2 = 12 ∧ ¬ ((0 : Int32) < 0 ∨ mN M2 v2 ≤ ((0 : Int32)).toNatClampNeg) then some ((0 : Int32), (sJ M2 v2 ((0 : Int32)).toNatClampNeg (r1).toInt64)) else none) (fun c5 M2 => if mX M2 + 1 ≤ xC x9 ∧ mS M2 + 6 ≤ xL x9 then if c5 = 1 then some ((1 : Int32), (sX M2 (mX M2 + 1) (mS M2 + 6))) else none else none) else none
set_option maxRecDepth 100000 in
set_option maxHeartbeats 4000000 in
theorem tL_total_0 {x9 : Cx} {K : Ct} {k9 : Nat} {M0 M9 : Mm} {r9 : Int32} (hX : CeH x9 K RL cL_total 4 (some .int) [(0, 9, 12, 13)] 7 111 "total" M0) (v0 : Nat) (v1 : Int32) (v2 : Nat) (M : Mm) (h : fL_total x9 k9 v0 v1 v2 M = some (r9, M9)) : Go x9 K 4 (Qf x9 K M0 (some (.int r9)) M9) 0 [(0, .ref v0), (1, .int v1), (2, .ref v2)] [] M := by
  have hE := hX.1
  have hC := hE.1
  unfold fL_total at h
  refine go_aload_n hC dL_total_0 rfl 2 rfl ?_
  refine go_iconst hC dL_total_1 (v := (0 : Int32)) (by decide +kernel) ?_
  refine go_aload_n hC dL_total_2 rfl 0 rfl ?_
  refine go_iload_n hC dL_total_3 rfl 1 rfl ?_
  obtain ⟨h4, h⟩ := os_1 h
  rcases os_H h with ⟨r1, M2, h3, h⟩ | ⟨c5, M2, h3, h⟩
  · refine go_callV (bytes := cX4_total) (maxL := 2) (ret := (some .int)) (n := 1) (As := [.int v1]) (st := [.int (0 : Int32), .ref v2]) hE (c_X4_total K.2.1 h3) (by unfold okY; decide +kernel) rfl h4 rfl (C := RX4) (T := TX4) (N := 7) rfl m_803 m_800 m_801 m_802 m_2 rfl (by simp [Value.category]) (by decide) (by decide) dL_total_4 ?_
    refine go_eq (pc' := 7) (st' := [.int r1, .int (0 : Int32), .ref v2]) (M' := M2) (lv' := [(0, .ref v0), (1, .int v1), (2, .ref v2)]) ?_ rfl rfl rfl rfl
    refine go_i2l hC dL_total_7 ?_
    obtain ⟨h7, h⟩ := os_1 h
    refine go_last hC h7.1 h7.2 dL_total_8 ?_
    refine go_goto (t := 15) hC dL_total_9 (by decide) ?_
    refine go_iconst hC dL_total_15 (v := (0 : Int32)) (by decide +kernel) ?_
    cases h
    exact go_iret hE dL_total_16
  · obtain ⟨h6, h⟩ := os_1 h
    by_cases e8 : c5 = 1
    · have h := os_t h e8
      subst e8
      refine go_callVH (pre := []) (en := ⟨0, 9, 12, 13⟩) (suf := []) (hpc := 12) (bytes := cX4_total) (maxL := 2) (ret := (some .int)) (n := 1) (As := [.int v1]) (st := [.int (0 : Int32), .ref v2]) hX (cX_X4_total K.2.1 hX.2.2 h3) (by unfold okY; decide +kernel) rfl h4 rfl (C := RX4) (T := TX4) (N := 7) rfl m_803 m_800 m_801 m_802 m_2 rfl (by simp [Value.category]) (by decide) (by decide) dL_total_4 rfl (fun z hz => absurd hz List.not_mem_nil) (by decide) (by decide) m_110 (by simp [cst, exN]) rfl h6 (fun q9 => ?_)
      refine go_astore_n (lv' := [(3, .ref q9), (0, .ref v0), (1, .int v1), (2, .ref v2)]) hC dL_total_12 rfl (by decide) rfl ?_
      refine go_iconst hC dL_total_13 (v := (1 : Int32)) (by decide +kernel) ?_
      cases h
      exact go_iret hE dL_total_14
    have h := os_f h e8
    cases h
theorem c_L_total (l : Launch) (hl : l.stackTraces = false) {x9 : Cx} {k9 : Nat} {M M9 : Mm} {r9 : Int32} {v0 : Nat} {v1 : Int32} {v2 : Nat} (h : fL_total x9 k9 v0 v1 v2 M = some (r9, M9)) : FnH l x9 yL_total cL_total 4 (some .int) [(0, 9, 12, 13)] 7 111 [.ref v0, .int v1, .ref v2] M (some (.int r9)) M9 :=
  FnH.of hl (by decide +kernel) (Nat.le_of_ble_eq_true rfl) rfl (fun K _ hX => tL_total_0 hX _ _ _ _ h)
