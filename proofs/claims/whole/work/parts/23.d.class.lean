/-! X4_copy -/
def fX4_copy (x9 : Cx) (k9 : Nat) (v0 : Nat) (v1 : Int32) (M : Mm) : Option ((Nat ⊕ Int32) × Mm) :=
  if mK M v0 = 5 then obT (fX4_needLetter x9 k9 v0 v1 M) (fun r1 M2 => if mK M2 v0 = 5 then ob2 (fX4_hasRoom x9 k9 v0 M2) (fun r5 M6 => if r5 = 0 then if (0 : Int32) = 0 ∨ (0 : Int32) = 1 then some (.inr (0 : Int32), M6) else none else if mK M6 v0 = 5 then ob1 (mP M6 v0 2) (fun b11 => if mK M6 v0 = 5 then ob1 (mP M6 v0 2) (fun b14 => if mK M6 b14 = 7 then ob2 (fJx4a65c_get_915e3 x9 k9 b14 v1 M6) (fun r16 M17 => if mK M17 r16 = 2 then if mK M17 b11 = 7 then ob2 (fJx4a65c_add_9ea2d x9 k9 b11 r16 M17) (fun r21 M22 => if (1 : Int32) = 0 ∨ (1 : Int32) = 1 then some (.inr (1 : Int32), M22) else none) else none else none) else none) else none) else none) else none) else none
set_option maxRecDepth 100000 in
set_option maxHeartbeats 4000000 in
theorem tX4_copy_0 {x9 : Cx} {K : Ct} {k9 : Nat} {M0 M9 : Mm} {r9 : Int32} (hE : Ce x9 K RX4 cX4_copy 2 (some .boolean) 8 171 "copy" M0) (v0 : Nat) (v1 : Int32) (M : Mm) (h : fX4_copy x9 k9 v0 v1 M = some (.inr r9, M9)) : Go x9 K 2 (Qf x9 K M0 (some (.int r9)) M9) 0 [(0, .ref v0), (1, .int v1)] [] M := by
  have hC := hE.1
  have hnm := hE.2.2.2.2.2.2.2.1
  unfold fX4_copy at h
  refine go_aload_n hC dX4_copy_0 rfl 0 rfl ?_
  refine go_iload_n hC dX4_copy_1 rfl 1 rfl ?_
  obtain ⟨h4, h⟩ := os_1 h
  obtain ⟨r1, M2, h3, h⟩ := os_TR h
  refine go_callV (bytes := cX4_needLetter) (maxL := 2) (ret := none) (n := 1) (As := [.int v1]) (st := []) hE (c_X4_needLetter K.2.1 h3) (by unfold okY; decide +kernel) rfl h4 rfl (C := RX4) (T := TX4) (N := 7) rfl m_542 m_539 m_540 m_541 m_2 rfl (by simp [Value.category]) (by decide) (by decide) dX4_copy_2 ?_
  refine go_eq (pc' := 5) (st' := []) (M' := M2) (lv' := [(0, .ref v0), (1, .int v1)]) ?_ rfl rfl rfl rfl
  refine go_aload_n hC dX4_copy_5 rfl 0 rfl ?_
  obtain ⟨h8, h⟩ := os_1 h
  obtain ⟨r5, M6, h7, h⟩ := os_c h
  refine go_callV (bytes := cX4_hasRoom) (maxL := 1) (ret := (some .boolean)) (n := 0) (As := []) (st := []) hE (c_X4_hasRoom K.2.1 h7) (by unfold okY; decide +kernel) rfl h8 rfl (C := RX4) (T := TX4) (N := 7) rfl m_454 m_451 m_452 m_453 m_2 rfl (by simp [Value.category]) (by decide) (by decide) dX4_copy_6 ?_
  refine go_eq (pc' := 9) (st' := [.int r5]) (M' := M6) (lv' := [(0, .ref v0), (1, .int v1)]) ?_ rfl rfl rfl rfl
  refine go_if_ne (t := 14) hC dX4_copy_9 (by decide) (fun c9 => ?_) (fun c9 => ?_)
  · have h := os_f h c9
    refine go_aload_n hC dX4_copy_14 rfl 0 rfl ?_
    obtain ⟨h10, h⟩ := os_1 h
    obtain ⟨b11, h12, h⟩ := os_b h
    refine go_getR 2 hC h10 rfl rfl h12 (C := RX4) (T := TX4) (N := 7) rfl inlX4 (by decide) m_21 (Or.inl rfl) dX4_copy_15 ?_
    refine go_aload_n hC dX4_copy_18 rfl 0 rfl ?_
    obtain ⟨h13, h⟩ := os_1 h
    obtain ⟨b14, h15, h⟩ := os_b h
    refine go_getR 2 hC h13 rfl rfl h15 (C := RX4) (T := TX4) (N := 7) rfl inlX4 (by decide) m_21 (Or.inl rfl) dX4_copy_19 ?_
    refine go_iload_n hC dX4_copy_22 rfl 1 rfl ?_
    obtain ⟨h19, h⟩ := os_1 h
    obtain ⟨r16, M17, h18, h⟩ := os_c h
    refine go_callV (bytes := cJx4a65c_get_915e3) (maxL := 2) (ret := (some (.object "java/lang/Object"))) (n := 1) (As := [.int v1]) (st := [.ref b11]) hE (c_Jx4a65c_get_915e3 K.2.1 h18) (by unfold okY; decide +kernel) rfl h19 rfl (C := RJx4a65c) (T := TJx4a65c) (N := 3) rfl m_220 m_217 m_218 m_219 m_19 rfl (by simp [Value.category]) (by decide) (by decide) dX4_copy_23 ?_
    refine go_eq (pc' := 26) (st' := [.ref r16, .ref b11]) (M' := M17) (lv' := [(0, .ref v0), (1, .int v1)]) ?_ rfl rfl rfl rfl
    obtain ⟨h20, h⟩ := os_1 h
    refine go_cast hC h20 rfl (C := RX1) (T := TX1) (N := 4) rfl m_538 dX4_copy_26 ?_
    obtain ⟨h24, h⟩ := os_1 h
    obtain ⟨r21, M22, h23, h⟩ := os_c h
    refine go_callV (bytes := cJx4a65c_add_9ea2d) (maxL := 2) (ret := (some .boolean)) (n := 1) (As := [.ref r16]) (st := []) hE (c_Jx4a65c_add_9ea2d K.2.1 h23) (by unfold okY; decide +kernel) rfl h24 rfl (C := RJx4a65c) (T := TJx4a65c) (N := 3) rfl m_170 m_167 m_168 m_169 m_19 rfl (by simp [Value.category]) (by decide) (by decide) dX4_copy_29 ?_
    refine go_eq (pc' := 32) (st' := [.int r21]) (M' := M22) (lv' := [(0, .ref v0), (1, .int v1)]) ?_ rfl rfl rfl rfl
    refine go_pop hC dX4_copy_32 rfl ?_
    refine go_iconst hC dX4_copy_33 (v := (1 : Int32)) (by decide +kernel) ?_
    obtain ⟨h25, h⟩ := os_1 h
    cases h
    exact go_zret hE h25 dX4_copy_34
  · have h := os_t h c9
    refine go_iconst hC dX4_copy_12 (v := (0 : Int32)) (by decide +kernel) ?_
    obtain ⟨h26, h⟩ := os_1 h
    cases h
    exact go_zret hE h26 dX4_copy_13
theorem c_X4_copy (l : Launch) {x9 : Cx} {k9 : Nat} {M M9 : Mm} {r9 : Int32} {v0 : Nat} {v1 : Int32} (h : fX4_copy x9 k9 v0 v1 M = some (.inr r9, M9)) : Fn l x9 yX4_copy cX4_copy 2 (some .boolean) 8 171 [.ref v0, .int v1] M (some (.int r9)) M9 :=
  Fn.of (by decide +kernel) (Nat.le_of_ble_eq_true rfl) rfl (fun K _ hE => tX4_copy_0 hE _ _ _ h)
set_option maxRecDepth 100000 in
set_option maxHeartbeats 4000000 in
theorem uX4_copy_0 {x9 : Cx} {K : Ct} {k9 : Nat} {M0 M9 : Mm} {c9 : Nat} (hX : CeX x9 K RX4 cX4_copy 2 (some .boolean) 8 171 "copy" M0) (v0 : Nat) (v1 : Int32) (M : Mm) (h : fX4_copy x9 k9 v0 v1 M = some (.inl c9, M9)) : Go x9 K 2 (QX x9 K M0 c9 M9) 0 [(0, .ref v0), (1, .int v1)] [] M := by
  have hE := hX.1
  have hC := hE.1
  unfold fX4_copy at h
  refine go_aload_n hC dX4_copy_0 rfl 0 rfl ?_
  refine go_iload_n hC dX4_copy_1 rfl 1 rfl ?_
  obtain ⟨h4, h⟩ := os_1 h
  rcases os_TX h with h3 | ⟨r1, M2, h3, h⟩
  · exact go_callVX (bytes := cX4_needLetter) (maxL := 2) (ret := none) (n := 1) (As := [.int v1]) (st := []) hX (cX_X4_needLetter K.2.1 hX.2.2 h3) (by unfold okY; decide +kernel) rfl h4 rfl (C := RX4) (T := TX4) (N := 7) rfl m_542 m_539 m_540 m_541 m_2 rfl (by simp [Value.category]) (by decide) (by decide) dX4_copy_2
  refine go_callV (bytes := cX4_needLetter) (maxL := 2) (ret := none) (n := 1) (As := [.int v1]) (st := []) hE (c_X4_needLetter K.2.1 h3) (by unfold okY; decide +kernel) rfl h4 rfl (C := RX4) (T := TX4) (N := 7) rfl m_542 m_539 m_540 m_541 m_2 rfl (by simp [Value.category]) (by decide) (by decide) dX4_copy_2 ?_
  refine go_eq (pc' := 5) (st' := []) (M' := M2) (lv' := [(0, .ref v0), (1, .int v1)]) ?_ rfl rfl rfl rfl
  refine go_aload_n hC dX4_copy_5 rfl 0 rfl ?_
  obtain ⟨h8, h⟩ := os_1 h
  obtain ⟨r5, M6, h7, h⟩ := os_c h
  refine go_callV (bytes := cX4_hasRoom) (maxL := 1) (ret := (some .boolean)) (n := 0) (As := []) (st := []) hE (c_X4_hasRoom K.2.1 h7) (by unfold okY; decide +kernel) rfl h8 rfl (C := RX4) (T := TX4) (N := 7) rfl m_454 m_451 m_452 m_453 m_2 rfl (by simp [Value.category]) (by decide) (by decide) dX4_copy_6 ?_
  refine go_eq (pc' := 9) (st' := [.int r5]) (M' := M6) (lv' := [(0, .ref v0), (1, .int v1)]) ?_ rfl rfl rfl rfl
  refine go_if_ne (t := 14) hC dX4_copy_9 (by decide) (fun c9 => ?_) (fun c9 => ?_)
  · have h := os_f h c9
    refine go_aload_n hC dX4_copy_14 rfl 0 rfl ?_
    obtain ⟨h10, h⟩ := os_1 h
    obtain ⟨b11, h12, h⟩ := os_b h
    refine go_getR 2 hC h10 rfl rfl h12 (C := RX4) (T := TX4) (N := 7) rfl inlX4 (by decide) m_21 (Or.inl rfl) dX4_copy_15 ?_
    refine go_aload_n hC dX4_copy_18 rfl 0 rfl ?_
    obtain ⟨h13, h⟩ := os_1 h
    obtain ⟨b14, h15, h⟩ := os_b h
    refine go_getR 2 hC h13 rfl rfl h15 (C := RX4) (T := TX4) (N := 7) rfl inlX4 (by decide) m_21 (Or.inl rfl) dX4_copy_19 ?_
    refine go_iload_n hC dX4_copy_22 rfl 1 rfl ?_
    obtain ⟨h19, h⟩ := os_1 h
    obtain ⟨r16, M17, h18, h⟩ := os_c h
    refine go_callV (bytes := cJx4a65c_get_915e3) (maxL := 2) (ret := (some (.object "java/lang/Object"))) (n := 1) (As := [.int v1]) (st := [.ref b11]) hE (c_Jx4a65c_get_915e3 K.2.1 h18) (by unfold okY; decide +kernel) rfl h19 rfl (C := RJx4a65c) (T := TJx4a65c) (N := 3) rfl m_220 m_217 m_218 m_219 m_19 rfl (by simp [Value.category]) (by decide) (by decide) dX4_copy_23 ?_
    refine go_eq (pc' := 26) (st' := [.ref r16, .ref b11]) (M' := M17) (lv' := [(0, .ref v0), (1, .int v1)]) ?_ rfl rfl rfl rfl
    obtain ⟨h20, h⟩ := os_1 h
    refine go_cast hC h20 rfl (C := RX1) (T := TX1) (N := 4) rfl m_538 dX4_copy_26 ?_
    obtain ⟨h24, h⟩ := os_1 h
    obtain ⟨r21, M22, h23, h⟩ := os_c h
    refine go_callV (bytes := cJx4a65c_add_9ea2d) (maxL := 2) (ret := (some .boolean)) (n := 1) (As := [.ref r16]) (st := []) hE (c_Jx4a65c_add_9ea2d K.2.1 h23) (by unfold okY; decide +kernel) rfl h24 rfl (C := RJx4a65c) (T := TJx4a65c) (N := 3) rfl m_170 m_167 m_168 m_169 m_19 rfl (by simp [Value.category]) (by decide) (by decide) dX4_copy_29 ?_
    refine go_eq (pc' := 32) (st' := [.int r21]) (M' := M22) (lv' := [(0, .ref v0), (1, .int v1)]) ?_ rfl rfl rfl rfl
    refine go_pop hC dX4_copy_32 rfl ?_
    refine go_iconst hC dX4_copy_33 (v := (1 : Int32)) (by decide +kernel) ?_
    obtain ⟨h25, h⟩ := os_1 h
    cases h
  · have h := os_t h c9
    refine go_iconst hC dX4_copy_12 (v := (0 : Int32)) (by decide +kernel) ?_
    obtain ⟨h26, h⟩ := os_1 h
    cases h
theorem cX_X4_copy (l : Launch) (hl : l.stackTraces = false) {x9 : Cx} {k9 : Nat} {M M9 : Mm} {c9 : Nat} {v0 : Nat} {v1 : Int32} (h : fX4_copy x9 k9 v0 v1 M = some (.inl c9, M9)) : FnX l x9 yX4_copy cX4_copy 2 (some .boolean) 8 171 [.ref v0, .int v1] M c9 M9 :=
  FnX.of hl (by decide +kernel) (Nat.le_of_ble_eq_true rfl) rfl (fun K _ hX => uX4_copy_0 hX _ _ _ h)
/-! X4_byteOf -/
def fX4_byteOf (x9 : Cx) (k9 : Nat) (v0 : Nat) (v1 : Int32) (v2 : Int32) (M : Mm) : Option ((Nat ⊕ Int32) × Mm) :=
  if mK M v0 = 5 then obT (fX4_needLetter x9 k9 v0 v1 M) (fun r1 M2 => if mK M2 v0 = 5 then ob1 (mP M2 v0 2) (fun b6 => if mK M2 b6 = 7 then ob2 (fJx4a65c_get_915e3 x9 k9 b6 v1 M2) (fun r8 M9 => if mK M9 r8 = 2 then if mK M9 v0 = 5 then ob1 (mP M9 v0 3) (fun b14 => if mK M9 b14 = 1 then ob2 (fX0_lookFor x9 k9 b14 v2 M9) (fun r16 M17 => if mK M17 v0 = 5 then ob1 (mP M17 v0 1) (fun b21 => if mK M17 r8 = 2 then ob2 (fX1_transaction x9 k9 r8 M17) (fun r23 M24 => if mK M24 b21 = 7 then ob2 (fJx4a65c_get_915e3 x9 k9 b21 r23 M24) (fun r27 M28 => if mK M28 r27 = 4 then if mK M28 v0 = 5 then ob2 (fX4_spell x9 k9 v0 r8 r27 M28) (fun r32 M33 => if mK M33 v0 = 5 then ob1 (mP M33 v0 3) (fun b37 => if mK M33 b37 = 1 then some (.inr (mV M33 b37 3), M33) else none) else none) else none else none) else none) else none) else none) else none) else none else none) else none) else none) else none
set_option maxRecDepth 100000 in
set_option maxHeartbeats 4000000 in
theorem tX4_byteOf_0 {x9 : Cx} {K : Ct} {k9 : Nat} {M0 M9 : Mm} {r9 : Int32} (hE : Ce x9 K RX4 cX4_byteOf 4 (some .int) 8 131 "byteOf" M0) (v0 : Nat) (v1 : Int32) (v2 : Int32) (M : Mm) (h : fX4_byteOf x9 k9 v0 v1 v2 M = some (.inr r9, M9)) : Go x9 K 4 (Qf x9 K M0 (some (.int r9)) M9) 0 [(0, .ref v0), (1, .int v1), (2, .int v2)] [] M := by
  have hC := hE.1
  have hnm := hE.2.2.2.2.2.2.2.1
  unfold fX4_byteOf at h
  refine go_aload_n hC dX4_byteOf_0 rfl 0 rfl ?_
  refine go_iload_n hC dX4_byteOf_1 rfl 1 rfl ?_
  obtain ⟨h4, h⟩ := os_1 h
  obtain ⟨r1, M2, h3, h⟩ := os_TR h
  refine go_callV (bytes := cX4_needLetter) (maxL := 2) (ret := none) (n := 1) (As := [.int v1]) (st := []) hE (c_X4_needLetter K.2.1 h3) (by unfold okY; decide +kernel) rfl h4 rfl (C := RX4) (T := TX4) (N := 7) rfl m_542 m_539 m_540 m_541 m_2 rfl (by simp [Value.category]) (by decide) (by decide) dX4_byteOf_2 ?_
  refine go_eq (pc' := 5) (st' := []) (M' := M2) (lv' := [(0, .ref v0), (1, .int v1), (2, .int v2)]) ?_ rfl rfl rfl rfl
  refine go_aload_n hC dX4_byteOf_5 rfl 0 rfl ?_
  obtain ⟨h5, h⟩ := os_1 h
  obtain ⟨b6, h7, h⟩ := os_b h
  refine go_getR 2 hC h5 rfl rfl h7 (C := RX4) (T := TX4) (N := 7) rfl inlX4 (by decide) m_21 (Or.inl rfl) dX4_byteOf_6 ?_
  refine go_iload_n hC dX4_byteOf_9 rfl 1 rfl ?_
  obtain ⟨h11, h⟩ := os_1 h
  obtain ⟨r8, M9, h10, h⟩ := os_c h
  refine go_callV (bytes := cJx4a65c_get_915e3) (maxL := 2) (ret := (some (.object "java/lang/Object"))) (n := 1) (As := [.int v1]) (st := []) hE (c_Jx4a65c_get_915e3 K.2.1 h10) (by unfold okY; decide +kernel) rfl h11 rfl (C := RJx4a65c) (T := TJx4a65c) (N := 3) rfl m_220 m_217 m_218 m_219 m_19 rfl (by simp [Value.category]) (by decide) (by decide) dX4_byteOf_10 ?_
  refine go_eq (pc' := 13) (st' := [.ref r8]) (M' := M9) (lv' := [(0, .ref v0), (1, .int v1), (2, .int v2)]) ?_ rfl rfl rfl rfl
  obtain ⟨h12, h⟩ := os_1 h
  refine go_cast hC h12 rfl (C := RX1) (T := TX1) (N := 4) rfl m_538 dX4_byteOf_13 ?_
  refine go_astore_n (lv' := [(3, .ref r8), (0, .ref v0), (1, .int v1), (2, .int v2)]) hC dX4_byteOf_16 rfl (by decide) rfl ?_
  refine go_aload_n hC dX4_byteOf_17 rfl 1 rfl ?_
  obtain ⟨h13, h⟩ := os_1 h
  obtain ⟨b14, h15, h⟩ := os_b h
  refine go_getR 3 hC h13 rfl rfl h15 (C := RX4) (T := TX4) (N := 7) rfl inlX4 (by decide) m_25 (Or.inl rfl) dX4_byteOf_18 ?_
  refine go_iload_n hC dX4_byteOf_21 rfl 3 rfl ?_
  obtain ⟨h19, h⟩ := os_1 h
  obtain ⟨r16, M17, h18, h⟩ := os_c h
  refine go_callV (bytes := cX0_lookFor) (maxL := 2) (ret := none) (n := 1) (As := [.int v2]) (st := []) hE (c_X0_lookFor K.2.1 h18) (by unfold okY; decide +kernel) rfl h19 rfl (C := RX0) (T := TX0) (N := 4) rfl m_665 m_662 m_663 m_664 m_24 rfl (by simp [Value.category]) (by decide) (by decide) dX4_byteOf_22 ?_
  refine go_eq (pc' := 25) (st' := []) (M' := M17) (lv' := [(3, .ref r8), (0, .ref v0), (1, .int v1), (2, .int v2)]) ?_ rfl rfl rfl rfl
  refine go_aload_n hC dX4_byteOf_25 rfl 1 rfl ?_
  refine go_aload_n hC dX4_byteOf_26 rfl 0 rfl ?_
  refine go_aload_n hC dX4_byteOf_27 rfl 1 rfl ?_
  obtain ⟨h20, h⟩ := os_1 h
  obtain ⟨b21, h22, h⟩ := os_b h
  refine go_getR 1 hC h20 rfl rfl h22 (C := RX4) (T := TX4) (N := 7) rfl inlX4 (by decide) m_20 (Or.inl rfl) dX4_byteOf_28 ?_
  refine go_aload_n hC dX4_byteOf_31 rfl 0 rfl ?_
  obtain ⟨h26, h⟩ := os_1 h
  obtain ⟨r23, M24, h25, h⟩ := os_c h
  refine go_callV (bytes := cX1_transaction) (maxL := 1) (ret := (some .int)) (n := 0) (As := []) (st := [.ref b21, .ref r8, .ref v0]) hE (c_X1_transaction K.2.1 h25) (by unfold okY; decide +kernel) rfl h26 rfl (C := RX1) (T := TX1) (N := 4) rfl m_559 m_556 m_557 m_558 m_450 rfl (by simp [Value.category]) (by decide) (by decide) dX4_byteOf_32 ?_
  refine go_eq (pc' := 35) (st' := [.int r23, .ref b21, .ref r8, .ref v0]) (M' := M24) (lv' := [(3, .ref r8), (0, .ref v0), (1, .int v1), (2, .int v2)]) ?_ rfl rfl rfl rfl
  obtain ⟨h30, h⟩ := os_1 h
  obtain ⟨r27, M28, h29, h⟩ := os_c h
  refine go_callV (bytes := cJx4a65c_get_915e3) (maxL := 2) (ret := (some (.object "java/lang/Object"))) (n := 1) (As := [.int r23]) (st := [.ref r8, .ref v0]) hE (c_Jx4a65c_get_915e3 K.2.1 h29) (by unfold okY; decide +kernel) rfl h30 rfl (C := RJx4a65c) (T := TJx4a65c) (N := 3) rfl m_220 m_217 m_218 m_219 m_19 rfl (by simp [Value.category]) (by decide) (by decide) dX4_byteOf_35 ?_
  refine go_eq (pc' := 38) (st' := [.ref r27, .ref r8, .ref v0]) (M' := M28) (lv' := [(3, .ref r8), (0, .ref v0), (1, .int v1), (2, .int v2)]) ?_ rfl rfl rfl rfl
  obtain ⟨h31, h⟩ := os_1 h
  refine go_cast hC h31 rfl (C := RX3) (T := TX3) (N := 16) rfl m_145 dX4_byteOf_38 ?_
  obtain ⟨h35, h⟩ := os_1 h
  obtain ⟨r32, M33, h34, h⟩ := os_c h
  refine go_callV (bytes := cX4_spell) (maxL := 3) (ret := none) (n := 2) (As := [.ref r8, .ref r27]) (st := []) hE (c_X4_spell K.2.1 h34) (by unfold okY; decide +kernel) rfl h35 rfl (C := RX4) (T := TX4) (N := 7) rfl m_673 m_670 m_671 m_672 m_2 rfl (by simp [Value.category]) (by decide) (by decide) dX4_byteOf_41 ?_
  refine go_eq (pc' := 44) (st' := []) (M' := M33) (lv' := [(3, .ref r8), (0, .ref v0), (1, .int v1), (2, .int v2)]) ?_ rfl rfl rfl rfl
  refine go_aload_n hC dX4_byteOf_44 rfl 1 rfl ?_
  obtain ⟨h36, h⟩ := os_1 h
  obtain ⟨b37, h38, h⟩ := os_b h
  refine go_getR 3 hC h36 rfl rfl h38 (C := RX4) (T := TX4) (N := 7) rfl inlX4 (by decide) m_25 (Or.inl rfl) dX4_byteOf_45 ?_
  obtain ⟨h39, h⟩ := os_1 h
  refine go_getV 3 hC h39 rfl rfl (C := RX0) (T := TX0) (N := 4) rfl inlX0 (by decide) m_661 (Or.inl rfl) dX4_byteOf_48 ?_
  cases h
  exact go_iret hE dX4_byteOf_51
theorem c_X4_byteOf (l : Launch) {x9 : Cx} {k9 : Nat} {M M9 : Mm} {r9 : Int32} {v0 : Nat} {v1 : Int32} {v2 : Int32} (h : fX4_byteOf x9 k9 v0 v1 v2 M = some (.inr r9, M9)) : Fn l x9 yX4_byteOf cX4_byteOf 4 (some .int) 8 131 [.ref v0, .int v1, .int v2] M (some (.int r9)) M9 :=
  Fn.of (by decide +kernel) (Nat.le_of_ble_eq_true rfl) rfl (fun K _ hE => tX4_byteOf_0 hE _ _ _ _ h)
set_option maxRecDepth 100000 in
set_option maxHeartbeats 4000000 in
theorem uX4_byteOf_0 {x9 : Cx} {K : Ct} {k9 : Nat} {M0 M9 : Mm} {c9 : Nat} (hX : CeX x9 K RX4 cX4_byteOf 4 (some .int) 8 131 "byteOf" M0) (v0 : Nat) (v1 : Int32) (v2 : Int32) (M : Mm) (h : fX4_byteOf x9 k9 v0 v1 v2 M = some (.inl c9, M9)) : Go x9 K 4 (QX x9 K M0 c9 M9) 0 [(0, .ref v0), (1, .int v1), (2, .int v2)] [] M := by
  have hE := hX.1
  have hC := hE.1
  unfold fX4_byteOf at h
  refine go_aload_n hC dX4_byteOf_0 rfl 0 rfl ?_
  refine go_iload_n hC dX4_byteOf_1 rfl 1 rfl ?_
  obtain ⟨h4, h⟩ := os_1 h
  rcases os_TX h with h3 | ⟨r1, M2, h3, h⟩
  · exact go_callVX (bytes := cX4_needLetter) (maxL := 2) (ret := none) (n := 1) (As := [.int v1]) (st := []) hX (cX_X4_needLetter K.2.1 hX.2.2 h3) (by unfold okY; decide +kernel) rfl h4 rfl (C := RX4) (T := TX4) (N := 7) rfl m_542 m_539 m_540 m_541 m_2 rfl (by simp [Value.category]) (by decide) (by decide) dX4_byteOf_2
  refine go_callV (bytes := cX4_needLetter) (maxL := 2) (ret := none) (n := 1) (As := [.int v1]) (st := []) hE (c_X4_needLetter K.2.1 h3) (by unfold okY; decide +kernel) rfl h4 rfl (C := RX4) (T := TX4) (N := 7) rfl m_542 m_539 m_540 m_541 m_2 rfl (by simp [Value.category]) (by decide) (by decide) dX4_byteOf_2 ?_
  refine go_eq (pc' := 5) (st' := []) (M' := M2) (lv' := [(0, .ref v0), (1, .int v1), (2, .int v2)]) ?_ rfl rfl rfl rfl
  refine go_aload_n hC dX4_byteOf_5 rfl 0 rfl ?_
  obtain ⟨h5, h⟩ := os_1 h
  obtain ⟨b6, h7, h⟩ := os_b h
  refine go_getR 2 hC h5 rfl rfl h7 (C := RX4) (T := TX4) (N := 7) rfl inlX4 (by decide) m_21 (Or.inl rfl) dX4_byteOf_6 ?_
  refine go_iload_n hC dX4_byteOf_9 rfl 1 rfl ?_
  obtain ⟨h11, h⟩ := os_1 h
  obtain ⟨r8, M9, h10, h⟩ := os_c h
  refine go_callV (bytes := cJx4a65c_get_915e3) (maxL := 2) (ret := (some (.object "java/lang/Object"))) (n := 1) (As := [.int v1]) (st := []) hE (c_Jx4a65c_get_915e3 K.2.1 h10) (by unfold okY; decide +kernel) rfl h11 rfl (C := RJx4a65c) (T := TJx4a65c) (N := 3) rfl m_220 m_217 m_218 m_219 m_19 rfl (by simp [Value.category]) (by decide) (by decide) dX4_byteOf_10 ?_
  refine go_eq (pc' := 13) (st' := [.ref r8]) (M' := M9) (lv' := [(0, .ref v0), (1, .int v1), (2, .int v2)]) ?_ rfl rfl rfl rfl
  obtain ⟨h12, h⟩ := os_1 h
  refine go_cast hC h12 rfl (C := RX1) (T := TX1) (N := 4) rfl m_538 dX4_byteOf_13 ?_
  refine go_astore_n (lv' := [(3, .ref r8), (0, .ref v0), (1, .int v1), (2, .int v2)]) hC dX4_byteOf_16 rfl (by decide) rfl ?_
  refine go_aload_n hC dX4_byteOf_17 rfl 1 rfl ?_
  obtain ⟨h13, h⟩ := os_1 h
  obtain ⟨b14, h15, h⟩ := os_b h
  refine go_getR 3 hC h13 rfl rfl h15 (C := RX4) (T := TX4) (N := 7) rfl inlX4 (by decide) m_25 (Or.inl rfl) dX4_byteOf_18 ?_
  refine go_iload_n hC dX4_byteOf_21 rfl 3 rfl ?_
  obtain ⟨h19, h⟩ := os_1 h
  obtain ⟨r16, M17, h18, h⟩ := os_c h
  refine go_callV (bytes := cX0_lookFor) (maxL := 2) (ret := none) (n := 1) (As := [.int v2]) (st := []) hE (c_X0_lookFor K.2.1 h18) (by unfold okY; decide +kernel) rfl h19 rfl (C := RX0) (T := TX0) (N := 4) rfl m_665 m_662 m_663 m_664 m_24 rfl (by simp [Value.category]) (by decide) (by decide) dX4_byteOf_22 ?_
  refine go_eq (pc' := 25) (st' := []) (M' := M17) (lv' := [(3, .ref r8), (0, .ref v0), (1, .int v1), (2, .int v2)]) ?_ rfl rfl rfl rfl
  refine go_aload_n hC dX4_byteOf_25 rfl 1 rfl ?_
  refine go_aload_n hC dX4_byteOf_26 rfl 0 rfl ?_
  refine go_aload_n hC dX4_byteOf_27 rfl 1 rfl ?_
  obtain ⟨h20, h⟩ := os_1 h
  obtain ⟨b21, h22, h⟩ := os_b h
  refine go_getR 1 hC h20 rfl rfl h22 (C := RX4) (T := TX4) (N := 7) rfl inlX4 (by decide) m_20 (Or.inl rfl) dX4_byteOf_28 ?_
  refine go_aload_n hC dX4_byteOf_31 rfl 0 rfl ?_
  obtain ⟨h26, h⟩ := os_1 h
  obtain ⟨r23, M24, h25, h⟩ := os_c h
  refine go_callV (bytes := cX1_transaction) (maxL := 1) (ret := (some .int)) (n := 0) (As := []) (st := [.ref b21, .ref r8, .ref v0]) hE (c_X1_transaction K.2.1 h25) (by unfold okY; decide +kernel) rfl h26 rfl (C := RX1) (T := TX1) (N := 4) rfl m_559 m_556 m_557 m_558 m_450 rfl (by simp [Value.category]) (by decide) (by decide) dX4_byteOf_32 ?_
  refine go_eq (pc' := 35) (st' := [.int r23, .ref b21, .ref r8, .ref v0]) (M' := M24) (lv' := [(3, .ref r8), (0, .ref v0), (1, .int v1), (2, .int v2)]) ?_ rfl rfl rfl rfl
  obtain ⟨h30, h⟩ := os_1 h
  obtain ⟨r27, M28, h29, h⟩ := os_c h
  refine go_callV (bytes := cJx4a65c_get_915e3) (maxL := 2) (ret := (some (.object "java/lang/Object"))) (n := 1) (As := [.int r23]) (st := [.ref r8, .ref v0]) hE (c_Jx4a65c_get_915e3 K.2.1 h29) (by unfold okY; decide +kernel) rfl h30 rfl (C := RJx4a65c) (T := TJx4a65c) (N := 3) rfl m_220 m_217 m_218 m_219 m_19 rfl (by simp [Value.category]) (by decide) (by decide) dX4_byteOf_35 ?_
  refine go_eq (pc' := 38) (st' := [.ref r27, .ref r8, .ref v0]) (M' := M28) (lv' := [(3, .ref r8), (0, .ref v0), (1, .int v1), (2, .int v2)]) ?_ rfl rfl rfl rfl
  obtain ⟨h31, h⟩ := os_1 h
  refine go_cast hC h31 rfl (C := RX3) (T := TX3) (N := 16) rfl m_145 dX4_byteOf_38 ?_
  obtain ⟨h35, h⟩ := os_1 h
  obtain ⟨r32, M33, h34, h⟩ := os_c h
  refine go_callV (bytes := cX4_spell) (maxL := 3) (ret := none) (n := 2) (As := [.ref r8, .ref r27]) (st := []) hE (c_X4_spell K.2.1 h34) (by unfold okY; decide +kernel) rfl h35 rfl (C := RX4) (T := TX4) (N := 7) rfl m_673 m_670 m_671 m_672 m_2 rfl (by simp [Value.category]) (by decide) (by decide) dX4_byteOf_41 ?_
  refine go_eq (pc' := 44) (st' := []) (M' := M33) (lv' := [(3, .ref r8), (0, .ref v0), (1, .int v1), (2, .int v2)]) ?_ rfl rfl rfl rfl
  refine go_aload_n hC dX4_byteOf_44 rfl 1 rfl ?_
  obtain ⟨h36, h⟩ := os_1 h
  obtain ⟨b37, h38, h⟩ := os_b h
  refine go_getR 3 hC h36 rfl rfl h38 (C := RX4) (T := TX4) (N := 7) rfl inlX4 (by decide) m_25 (Or.inl rfl) dX4_byteOf_45 ?_
  obtain ⟨h39, h⟩ := os_1 h
  refine go_getV 3 hC h39 rfl rfl (C := RX0) (T := TX0) (N := 4) rfl inlX0 (by decide) m_661 (Or.inl rfl) dX4_byteOf_48 ?_
  cases h
theorem cX_X4_byteOf (l : Launch) (hl : l.stackTraces = false) {x9 : Cx} {k9 : Nat} {M M9 : Mm} {c9 : Nat} {v0 : Nat} {v1 : Int32} {v2 : Int32} (h : fX4_byteOf x9 k9 v0 v1 v2 M = some (.inl c9, M9)) : FnX l x9 yX4_byteOf cX4_byteOf 4 (some .int) 8 131 [.ref v0, .int v1, .int v2] M c9 M9 :=
  FnX.of hl (by decide +kernel) (Nat.le_of_ble_eq_true rfl) rfl (fun K _ hX => uX4_byteOf_0 hX _ _ _ _ h)
/-! X4_crash -/
def fX4_crash_76 (x9 : Cx) (k9 : Nat) (rec29 : Nat → Int32 → Int32 → Mm → Option ((Nat ⊕ Unit) × Mm)) (v0 : Nat) (v1 : Int32) (v2 : Int32) (M : Mm) : Option ((Nat ⊕ Unit) × Mm) :=
  rec29 v0 v1 (v2 + 1) M
set_option maxRecDepth 100000 in
set_option maxHeartbeats 4000000 in
theorem tX4_crash_76 {x9 : Cx} {K : Ct} {k9 : Nat} {M0 M9 : Mm} {r9 : Unit} (hE : Ce x9 K RX4 cX4_crash 4 none 8 131 "crash" M0) {rec29 : Nat → Int32 → Int32 → Mm → Option ((Nat ⊕ Unit) × Mm)} (hrec29 : ∀ (v0 : Nat) (v1 : Int32) (v2 : Int32) (M : Mm), rec29 v0 v1 v2 M = some (.inr r9, M9) → Go x9 K 4 (Qf x9 K M0 none M9) 29 [(0, .ref v0), (1, .int v1), (2, .int v2)] [] M) (v0 : Nat) (v1 : Int32) (v2 : Int32) (M : Mm) (h : fX4_crash_76 x9 k9 rec29 v0 v1 v2 M = some (.inr r9, M9)) : Go x9 K 4 (Qf x9 K M0 none M9) 76 [(0, .ref v0), (1, .int v1), (2, .int v2)] [] M := by
  have hC := hE.1
  have hnm := hE.2.2.2.2.2.2.2.1
  unfold fX4_crash_76 at h
  refine go_iinc (q := 2) (v := (v2 + 1)) (lv' := [(2, .int (v2 + 1)), (0, .ref v0), (1, .int v1)]) hC dX4_crash_76 rfl rfl (by decide) rfl ?_
  refine go_goto (t := 29) hC dX4_crash_79 (by decide) ?_
  refine go_sub (lv' := [(0, .ref v0), (1, .int v1), (2, .int (v2 + 1))]) [1, 2, 0] rfl ?_
  exact hrec29 _ _ _ _ h
def fX4_crash_29 (x9 : Cx) (k9 : Nat) : Nat → Nat → Int32 → Int32 → Mm → Option ((Nat ⊕ Unit) × Mm)
  | 0, _, _, _, _ => none
  | n9 + 1, v0, v1, v2, M => if mK M v0 = 5 then if (mV M v0 5) ≤ v2 then some (.inr (), M) else if mK M v0 = 5 then ob1 (mP M v0 1) (fun b4 => if mK M b4 = 7 then ob2 (fJx4a65c_get_915e3 x9 k9 b4 v2 M) (fun r6 M7 => if mK M7 r6 = 4 then if mK M7 r6 = 4 then ob2 (fX4_bit x9 k9 v1 M7) (fun r12 M13 => if mK M13 r6 = 4 then if mK (sV M13 r6 13 ((mV M7 r6 13) &&& (r12 ^^^ (-1 : Int32)))) r6 = 4 then if (mV (sV M13 r6 13 ((mV M7 r6 13) &&& (r12 ^^^ (-1 : Int32)))) r6 1) = v1 then ob2 (fX4_loseIfOpen x9 k9 r6 (sV M13 r6 13 ((mV M7 r6 13) &&& (r12 ^^^ (-1 : Int32))))) (fun r19 M20 => fX4_crash_76 x9 k9 (fX4_crash_29 x9 k9 n9) v0 v1 v2 M20) else fX4_crash_76 x9 k9 (fX4_crash_29 x9 k9 n9) v0 v1 v2 (sV M13 r6 13 ((mV M7 r6 13) &&& (r12 ^^^ (-1 : Int32)))) else none else none) else none else none) else none) else none else none
set_option maxRecDepth 100000 in
set_option maxHeartbeats 4000000 in
theorem tX4_crash_29 {x9 : Cx} {K : Ct} {k9 : Nat} {M0 M9 : Mm} {r9 : Unit} (hE : Ce x9 K RX4 cX4_crash 4 none 8 131 "crash" M0) : ∀ (n9 : Nat) (v0 : Nat) (v1 : Int32) (v2 : Int32) (M : Mm), fX4_crash_29 x9 k9 n9 v0 v1 v2 M = some (.inr r9, M9) → Go x9 K 4 (Qf x9 K M0 none M9) 29 [(0, .ref v0), (1, .int v1), (2, .int v2)] [] M := by
  have hC := hE.1
  have hnm := hE.2.2.2.2.2.2.2.1
  intro n9
  induction n9 with
  | zero => intro _ _ _ _ h; cases h
  | succ n9 ih =>
    intro v0 v1 v2 M h
    rw [fX4_crash_29] at h
    refine go_iload_n hC dX4_crash_29 rfl 2 rfl ?_
    refine go_aload_n hC dX4_crash_30 rfl 0 rfl ?_
    obtain ⟨h1, h⟩ := os_1 h
    refine go_getV 5 hC h1 rfl rfl (C := RX4) (T := TX4) (N := 7) rfl inlX4 (by decide) m_56 (Or.inl rfl) dX4_crash_31 ?_
    refine go_icmp_ge (t := 82) hC dX4_crash_34 (by decide) (fun c2 => ?_) (fun c2 => ?_)
    · have h := os_t h c2
      cases h
      exact go_vret hE dX4_crash_82
    · have h := os_f h c2
      refine go_aload_n hC dX4_crash_37 rfl 0 rfl ?_
      obtain ⟨h3, h⟩ := os_1 h
      obtain ⟨b4, h5, h⟩ := os_b h
      refine go_getR 1 hC h3 rfl rfl h5 (C := RX4) (T := TX4) (N := 7) rfl inlX4 (by decide) m_20 (Or.inl rfl) dX4_crash_38 ?_
      refine go_iload_n hC dX4_crash_41 rfl 2 rfl ?_
      obtain ⟨h9, h⟩ := os_1 h
      obtain ⟨r6, M7, h8, h⟩ := os_c h
      refine go_callV (bytes := cJx4a65c_get_915e3) (maxL := 2) (ret := (some (.object "java/lang/Object"))) (n := 1) (As := [.int v2]) (st := []) hE (c_Jx4a65c_get_915e3 K.2.1 h8) (by unfold okY; decide +kernel) rfl h9 rfl (C := RJx4a65c) (T := TJx4a65c) (N := 3) rfl m_220 m_217 m_218 m_219 m_19 rfl (by simp [Value.category]) (by decide) (by decide) dX4_crash_42 ?_
      refine go_eq (pc' := 45) (st' := [.ref r6]) (M' := M7) (lv' := [(0, .ref v0), (1, .int v1), (2, .int v2)]) ?_ rfl rfl rfl rfl
      obtain ⟨h10, h⟩ := os_1 h
      refine go_cast hC h10 rfl (C := RX3) (T := TX3) (N := 16) rfl m_145 dX4_crash_45 ?_
      refine go_astore_n (lv' := [(3, .ref r6), (0, .ref v0), (1, .int v1), (2, .int v2)]) hC dX4_crash_48 rfl (by decide) rfl ?_
      refine go_aload_n hC dX4_crash_49 rfl 0 rfl ?_
      refine go_dup hC dX4_crash_50 rfl ?_
      obtain ⟨h11, h⟩ := os_1 h
      refine go_getV 13 hC h11 rfl rfl (C := RX3) (T := TX3) (N := 16) rfl inlX3 (by decide) m_424 (Or.inl rfl) dX4_crash_51 ?_
      refine go_iload_n hC dX4_crash_54 rfl 2 rfl ?_
      obtain ⟨r12, M13, h14, h⟩ := os_c h
      refine go_callS (bytes := cX4_bit) (maxL := 1) (ret := (some .int)) (n := 1) (As := [.int v1]) (st := [.int (mV M7 r6 13), .ref r6]) hE (c_X4_bit K.2.1 h14) (by unfold okY; decide +kernel) rfl m_399 m_397 m_398 m_2 rfl (by simp [Value.category]) (by decide) (by decide) dX4_crash_55 ?_
      refine go_eq (pc' := 58) (st' := [.int r12, .int (mV M7 r6 13), .ref r6]) (M' := M13) (lv' := [(3, .ref r6), (0, .ref v0), (1, .int v1), (2, .int v2)]) ?_ rfl rfl rfl rfl
      refine go_iconst hC dX4_crash_58 (v := (-1 : Int32)) (by decide +kernel) ?_
      refine go_ixor hC dX4_crash_59 ?_
      refine go_iand hC dX4_crash_60 ?_
      obtain ⟨h16, h⟩ := os_1 h
      refine go_putV 13 hC h16 rfl rfl (C := RX3) (T := TX3) (N := 16) rfl inlX3 tyX3 tyX3_ok nmX3 (by decide) m_424 (Or.inl rfl) (Or.inl rfl) (tyX3_ok 13 (by decide)) rfl rfl dX4_crash_61 ?_
      refine go_aload_n hC dX4_crash_64 rfl 0 rfl ?_
      obtain ⟨h17, h⟩ := os_1 h
      refine go_getV 1 hC h17 rfl rfl (C := RX3) (T := TX3) (N := 16) rfl inlX3 (by decide) m_265 (Or.inl rfl) dX4_crash_65 ?_
      refine go_iload_n hC dX4_crash_68 rfl 2 rfl ?_
      refine go_icmp_ne (t := 76) hC dX4_crash_69 (by decide) (fun c18 => ?_) (fun c18 => ?_)
      · have h := os_f h c18
        refine go_sub (lv' := [(0, .ref v0), (1, .int v1), (2, .int v2)]) [1, 2, 3] rfl ?_
        exact tX4_crash_76 hE ih _ _ _ _ h
      · have h := os_t h c18
        refine go_aload_n hC dX4_crash_72 rfl 0 rfl ?_
        obtain ⟨r19, M20, h21, h⟩ := os_c h
        refine go_callS (bytes := cX4_loseIfOpen) (maxL := 1) (ret := none) (n := 1) (As := [.ref r6]) (st := []) hE (c_X4_loseIfOpen K.2.1 h21) (by unfold okY; decide +kernel) rfl m_736 m_734 m_735 m_2 rfl (by simp [Value.category]) (by decide) (by decide) dX4_crash_73 ?_
        refine go_eq (pc' := 76) (st' := []) (M' := M20) (lv' := [(3, .ref r6), (0, .ref v0), (1, .int v1), (2, .int v2)]) ?_ rfl rfl rfl rfl
        refine go_sub (lv' := [(0, .ref v0), (1, .int v1), (2, .int v2)]) [1, 2, 3] rfl ?_
        exact tX4_crash_76 hE ih _ _ _ _ h
def fX4_crash (x9 : Cx) (k9 : Nat) (v0 : Nat) (v1 : Int32) (M : Mm) : Option ((Nat ⊕ Unit) × Mm) :=
  if mK M v0 = 5 then obT (fX4_needSite x9 k9 v0 v1 M) (fun r1 M2 => if mK M2 v0 = 5 then ob1 (mP M2 v0 0) (fun b6 => if (mK M2 b6 = 10 ∨ mK M2 b6 = 11) ∧ ¬ (v1 < 0 ∨ mN M2 b6 ≤ (v1).toNatClampNeg) then ob1 (mP M2 b6 (v1).toNatClampNeg) (fun b10 => if mK M2 b10 = 3 then obT (fX4_needState x9 k9 (mV M2 b10 0) M2) (fun r12 M13 => if mK M13 v0 = 5 then ob1 (mP M13 v0 0) (fun b17 => if (mK M13 b17 = 10 ∨ mK M13 b17 = 11) ∧ ¬ (v1 < 0 ∨ mN M13 b17 ≤ (v1).toNatClampNeg) then ob1 (mP M13 b17 (v1).toNatClampNeg) (fun b21 => if mK M13 b21 = 3 ∧ ((0 : Int32) = 0 ∨ (0 : Int32) = 1) then fX4_crash_29 x9 k9 k9 v0 v1 (0 : Int32) (sV M13 b21 0 (0 : Int32)) else none) else none) else none) else none) else none) else none) else none
set_option maxRecDepth 100000 in
set_option maxHeartbeats 4000000 in
theorem tX4_crash_0 {x9 : Cx} {K : Ct} {k9 : Nat} {M0 M9 : Mm} {r9 : Unit} (hE : Ce x9 K RX4 cX4_crash 4 none 8 131 "crash" M0) (v0 : Nat) (v1 : Int32) (M : Mm) (h : fX4_crash x9 k9 v0 v1 M = some (.inr r9, M9)) : Go x9 K 4 (Qf x9 K M0 none M9) 0 [(0, .ref v0), (1, .int v1)] [] M := by
  have hC := hE.1
  have hnm := hE.2.2.2.2.2.2.2.1
  unfold fX4_crash at h
  refine go_aload_n hC dX4_crash_0 rfl 0 rfl ?_
  refine go_iload_n hC dX4_crash_1 rfl 1 rfl ?_
  obtain ⟨h4, h⟩ := os_1 h
  obtain ⟨r1, M2, h3, h⟩ := os_TR h
  refine go_callV (bytes := cX4_needSite) (maxL := 2) (ret := none) (n := 1) (As := [.int v1]) (st := []) hE (c_X4_needSite K.2.1 h3) (by unfold okY; decide +kernel) rfl h4 rfl (C := RX4) (T := TX4) (N := 7) rfl m_150 m_147 m_148 m_149 m_2 rfl (by simp [Value.category]) (by decide) (by decide) dX4_crash_2 ?_
  refine go_eq (pc' := 5) (st' := []) (M' := M2) (lv' := [(0, .ref v0), (1, .int v1)]) ?_ rfl rfl rfl rfl
  refine go_aload_n hC dX4_crash_5 rfl 0 rfl ?_
  obtain ⟨h5, h⟩ := os_1 h
  obtain ⟨b6, h7, h⟩ := os_b h
  refine go_getR 0 hC h5 rfl rfl h7 (C := RX4) (T := TX4) (N := 7) rfl inlX4 (by decide) m_14 (Or.inl rfl) dX4_crash_6 ?_
  refine go_iload_n hC dX4_crash_9 rfl 1 rfl ?_
  obtain ⟨h8, h⟩ := os_1 h
  obtain ⟨b10, h9, h⟩ := os_b h
  refine go_aald hC h8.1 h8.2 h9 dX4_crash_10 ?_
  obtain ⟨h11, h⟩ := os_1 h
  refine go_getV 0 hC h11 rfl rfl (C := RX2) (T := TX2) (N := 5) rfl inlX2 (by decide) m_141 (Or.inl rfl) dX4_crash_11 ?_
  obtain ⟨r12, M13, h14, h⟩ := os_TR h
  refine go_callS (bytes := cX4_needState) (maxL := 1) (ret := none) (n := 1) (As := [.int (mV M2 b10 0)]) (st := []) hE (c_X4_needState K.2.1 h14) (by unfold okY; decide +kernel) rfl m_153 m_151 m_152 m_2 rfl (by simp [Value.category]) (by decide) (by decide) dX4_crash_14 ?_
  refine go_eq (pc' := 17) (st' := []) (M' := M13) (lv' := [(0, .ref v0), (1, .int v1)]) ?_ rfl rfl rfl rfl
  refine go_aload_n hC dX4_crash_17 rfl 0 rfl ?_
  obtain ⟨h16, h⟩ := os_1 h
  obtain ⟨b17, h18, h⟩ := os_b h
  refine go_getR 0 hC h16 rfl rfl h18 (C := RX4) (T := TX4) (N := 7) rfl inlX4 (by decide) m_14 (Or.inl rfl) dX4_crash_18 ?_
  refine go_iload_n hC dX4_crash_21 rfl 1 rfl ?_
  obtain ⟨h19, h⟩ := os_1 h
  obtain ⟨b21, h20, h⟩ := os_b h
  refine go_aald hC h19.1 h19.2 h20 dX4_crash_22 ?_
  refine go_iconst hC dX4_crash_23 (v := (0 : Int32)) (by decide +kernel) ?_
  obtain ⟨h22, h⟩ := os_1 h
  refine go_putV 0 hC h22.1 rfl rfl (C := RX2) (T := TX2) (N := 5) rfl inlX2 tyX2 tyX2_ok nmX2 (by decide) m_141 (Or.inl rfl) (Or.inl rfl) (tyX2_ok 0 (by decide)) (nar_z h22.2) (fit_z h22.2) dX4_crash_24 ?_
  refine go_iconst hC dX4_crash_27 (v := (0 : Int32)) (by decide +kernel) ?_
  refine go_istore_n (lv' := [(2, .int (0 : Int32)), (0, .ref v0), (1, .int v1)]) hC dX4_crash_28 rfl (by decide) rfl ?_
  refine go_sub (lv' := [(0, .ref v0), (1, .int v1), (2, .int (0 : Int32))]) [1, 2, 0] rfl ?_
  exact tX4_crash_29 hE k9 _ _ _ _ h
theorem c_X4_crash (l : Launch) {x9 : Cx} {k9 : Nat} {M M9 : Mm} {r9 : Unit} {v0 : Nat} {v1 : Int32} (h : fX4_crash x9 k9 v0 v1 M = some (.inr r9, M9)) : Fn l x9 yX4_crash cX4_crash 4 none 8 131 [.ref v0, .int v1] M none M9 :=
  Fn.of (by decide +kernel) (Nat.le_of_ble_eq_true rfl) rfl (fun K _ hE => tX4_crash_0 hE _ _ _ h)
set_option maxRecDepth 100000 in
set_option maxHeartbeats 4000000 in
theorem uX4_crash_76 {x9 : Cx} {K : Ct} {k9 : Nat} {M0 M9 : Mm} {c9 : Nat} (hX : CeX x9 K RX4 cX4_crash 4 none 8 131 "crash" M0) {rec29 : Nat → Int32 → Int32 → Mm → Option ((Nat ⊕ Unit) × Mm)} (hrec29 : ∀ (v0 : Nat) (v1 : Int32) (v2 : Int32) (M : Mm), rec29 v0 v1 v2 M = some (.inl c9, M9) → Go x9 K 4 (QX x9 K M0 c9 M9) 29 [(0, .ref v0), (1, .int v1), (2, .int v2)] [] M) (v0 : Nat) (v1 : Int32) (v2 : Int32) (M : Mm) (h : fX4_crash_76 x9 k9 rec29 v0 v1 v2 M = some (.inl c9, M9)) : Go x9 K 4 (QX x9 K M0 c9 M9) 76 [(0, .ref v0), (1, .int v1), (2, .int v2)] [] M := by
  have hE := hX.1
  have hC := hE.1
  unfold fX4_crash_76 at h
  refine go_iinc (q := 2) (v := (v2 + 1)) (lv' := [(2, .int (v2 + 1)), (0, .ref v0), (1, .int v1)]) hC dX4_crash_76 rfl rfl (by decide) rfl ?_
  refine go_goto (t := 29) hC dX4_crash_79 (by decide) ?_
  refine go_sub (lv' := [(0, .ref v0), (1, .int v1), (2, .int (v2 + 1))]) [1, 2, 0] rfl ?_
  exact hrec29 _ _ _ _ h
set_option maxRecDepth 100000 in
set_option maxHeartbeats 4000000 in
theorem uX4_crash_29 {x9 : Cx} {K : Ct} {k9 : Nat} {M0 M9 : Mm} {c9 : Nat} (hX : CeX x9 K RX4 cX4_crash 4 none 8 131 "crash" M0) : ∀ (n9 : Nat) (v0 : Nat) (v1 : Int32) (v2 : Int32) (M : Mm), fX4_crash_29 x9 k9 n9 v0 v1 v2 M = some (.inl c9, M9) → Go x9 K 4 (QX x9 K M0 c9 M9) 29 [(0, .ref v0), (1, .int v1), (2, .int v2)] [] M := by
  have hE := hX.1
  have hC := hE.1
  intro n9
  induction n9 with
  | zero => intro _ _ _ _ h; cases h
  | succ n9 ih =>
    intro v0 v1 v2 M h
    rw [fX4_crash_29] at h
    refine go_iload_n hC dX4_crash_29 rfl 2 rfl ?_
    refine go_aload_n hC dX4_crash_30 rfl 0 rfl ?_
    obtain ⟨h1, h⟩ := os_1 h
    refine go_getV 5 hC h1 rfl rfl (C := RX4) (T := TX4) (N := 7) rfl inlX4 (by decide) m_56 (Or.inl rfl) dX4_crash_31 ?_
    refine go_icmp_ge (t := 82) hC dX4_crash_34 (by decide) (fun c2 => ?_) (fun c2 => ?_)
    · have h := os_t h c2
      cases h
    · have h := os_f h c2
      refine go_aload_n hC dX4_crash_37 rfl 0 rfl ?_
      obtain ⟨h3, h⟩ := os_1 h
      obtain ⟨b4, h5, h⟩ := os_b h
      refine go_getR 1 hC h3 rfl rfl h5 (C := RX4) (T := TX4) (N := 7) rfl inlX4 (by decide) m_20 (Or.inl rfl) dX4_crash_38 ?_
      refine go_iload_n hC dX4_crash_41 rfl 2 rfl ?_
      obtain ⟨h9, h⟩ := os_1 h
      obtain ⟨r6, M7, h8, h⟩ := os_c h
      refine go_callV (bytes := cJx4a65c_get_915e3) (maxL := 2) (ret := (some (.object "java/lang/Object"))) (n := 1) (As := [.int v2]) (st := []) hE (c_Jx4a65c_get_915e3 K.2.1 h8) (by unfold okY; decide +kernel) rfl h9 rfl (C := RJx4a65c) (T := TJx4a65c) (N := 3) rfl m_220 m_217 m_218 m_219 m_19 rfl (by simp [Value.category]) (by decide) (by decide) dX4_crash_42 ?_
      refine go_eq (pc' := 45) (st' := [.ref r6]) (M' := M7) (lv' := [(0, .ref v0), (1, .int v1), (2, .int v2)]) ?_ rfl rfl rfl rfl
      obtain ⟨h10, h⟩ := os_1 h
      refine go_cast hC h10 rfl (C := RX3) (T := TX3) (N := 16) rfl m_145 dX4_crash_45 ?_
      refine go_astore_n (lv' := [(3, .ref r6), (0, .ref v0), (1, .int v1), (2, .int v2)]) hC dX4_crash_48 rfl (by decide) rfl ?_
      refine go_aload_n hC dX4_crash_49 rfl 0 rfl ?_
      refine go_dup hC dX4_crash_50 rfl ?_
      obtain ⟨h11, h⟩ := os_1 h
      refine go_getV 13 hC h11 rfl rfl (C := RX3) (T := TX3) (N := 16) rfl inlX3 (by decide) m_424 (Or.inl rfl) dX4_crash_51 ?_
      refine go_iload_n hC dX4_crash_54 rfl 2 rfl ?_
      obtain ⟨r12, M13, h14, h⟩ := os_c h
      refine go_callS (bytes := cX4_bit) (maxL := 1) (ret := (some .int)) (n := 1) (As := [.int v1]) (st := [.int (mV M7 r6 13), .ref r6]) hE (c_X4_bit K.2.1 h14) (by unfold okY; decide +kernel) rfl m_399 m_397 m_398 m_2 rfl (by simp [Value.category]) (by decide) (by decide) dX4_crash_55 ?_
      refine go_eq (pc' := 58) (st' := [.int r12, .int (mV M7 r6 13), .ref r6]) (M' := M13) (lv' := [(3, .ref r6), (0, .ref v0), (1, .int v1), (2, .int v2)]) ?_ rfl rfl rfl rfl
      refine go_iconst hC dX4_crash_58 (v := (-1 : Int32)) (by decide +kernel) ?_
      refine go_ixor hC dX4_crash_59 ?_
      refine go_iand hC dX4_crash_60 ?_
      obtain ⟨h16, h⟩ := os_1 h
      refine go_putV 13 hC h16 rfl rfl (C := RX3) (T := TX3) (N := 16) rfl inlX3 tyX3 tyX3_ok nmX3 (by decide) m_424 (Or.inl rfl) (Or.inl rfl) (tyX3_ok 13 (by decide)) rfl rfl dX4_crash_61 ?_
      refine go_aload_n hC dX4_crash_64 rfl 0 rfl ?_
      obtain ⟨h17, h⟩ := os_1 h
      refine go_getV 1 hC h17 rfl rfl (C := RX3) (T := TX3) (N := 16) rfl inlX3 (by decide) m_265 (Or.inl rfl) dX4_crash_65 ?_
      refine go_iload_n hC dX4_crash_68 rfl 2 rfl ?_
      refine go_icmp_ne (t := 76) hC dX4_crash_69 (by decide) (fun c18 => ?_) (fun c18 => ?_)
      · have h := os_f h c18
        refine go_sub (lv' := [(0, .ref v0), (1, .int v1), (2, .int v2)]) [1, 2, 3] rfl ?_
        exact uX4_crash_76 hX ih _ _ _ _ h
      · have h := os_t h c18
        refine go_aload_n hC dX4_crash_72 rfl 0 rfl ?_
        obtain ⟨r19, M20, h21, h⟩ := os_c h
        refine go_callS (bytes := cX4_loseIfOpen) (maxL := 1) (ret := none) (n := 1) (As := [.ref r6]) (st := []) hE (c_X4_loseIfOpen K.2.1 h21) (by unfold okY; decide +kernel) rfl m_736 m_734 m_735 m_2 rfl (by simp [Value.category]) (by decide) (by decide) dX4_crash_73 ?_
        refine go_eq (pc' := 76) (st' := []) (M' := M20) (lv' := [(3, .ref r6), (0, .ref v0), (1, .int v1), (2, .int v2)]) ?_ rfl rfl rfl rfl
        refine go_sub (lv' := [(0, .ref v0), (1, .int v1), (2, .int v2)]) [1, 2, 3] rfl ?_
        exact uX4_crash_76 hX ih _ _ _ _ h
set_option maxRecDepth 100000 in
set_option maxHeartbeats 4000000 in
theorem uX4_crash_0 {x9 : Cx} {K : Ct} {k9 : Nat} {M0 M9 : Mm} {c9 : Nat} (hX : CeX x9 K RX4 cX4_crash 4 none 8 131 "crash" M0) (v0 : Nat) (v1 : Int32) (M : Mm) (h : fX4_crash x9 k9 v0 v1 M = some (.inl c9, M9)) : Go x9 K 4 (QX x9 K M0 c9 M9) 0 [(0, .ref v0), (1, .int v1)] [] M := by
  have hE := hX.1
  have hC := hE.1
  unfold fX4_crash at h
  refine go_aload_n hC dX4_crash_0 rfl 0 rfl ?_
  refine go_iload_n hC dX4_crash_1 rfl 1 rfl ?_
  obtain ⟨h4, h⟩ := os_1 h
  rcases os_TX h with h3 | ⟨r1, M2, h3, h⟩
  · exact go_callVX (bytes := cX4_needSite) (maxL := 2) (ret := none) (n := 1) (As := [.int v1]) (st := []) hX (cX_X4_needSite K.2.1 hX.2.2 h3) (by unfold okY; decide +kernel) rfl h4 rfl (C := RX4) (T := TX4) (N := 7) rfl m_150 m_147 m_148 m_149 m_2 rfl (by simp [Value.category]) (by decide) (by decide) dX4_crash_2
  refine go_callV (bytes := cX4_needSite) (maxL := 2) (ret := none) (n := 1) (As := [.int v1]) (st := []) hE (c_X4_needSite K.2.1 h3) (by unfold okY; decide +kernel) rfl h4 rfl (C := RX4) (T := TX4) (N := 7) rfl m_150 m_147 m_148 m_149 m_2 rfl (by simp [Value.category]) (by decide) (by decide) dX4_crash_2 ?_
  refine go_eq (pc' := 5) (st' := []) (M' := M2) (lv' := [(0, .ref v0), (1, .int v1)]) ?_ rfl rfl rfl rfl
  refine go_aload_n hC dX4_crash_5 rfl 0 rfl ?_
  obtain ⟨h5, h⟩ := os_1 h
  obtain ⟨b6, h7, h⟩ := os_b h
  refine go_getR 0 hC h5 rfl rfl h7 (C := RX4) (T := TX4) (N := 7) rfl inlX4 (by decide) m_14 (Or.inl rfl) dX4_crash_6 ?_
  refine go_iload_n hC dX4_crash_9 rfl 1 rfl ?_
  obtain ⟨h8, h⟩ := os_1 h
  obtain ⟨b10, h9, h⟩ := os_b h
  refine go_aald hC h8.1 h8.2 h9 dX4_crash_10 ?_
  obtain ⟨h11, h⟩ := os_1 h
  refine go_getV 0 hC h11 rfl rfl (C := RX2) (T := TX2) (N := 5) rfl inlX2 (by decide) m_141 (Or.inl rfl) dX4_crash_11 ?_
  rcases os_TX h with h14 | ⟨r12, M13, h14, h⟩
  · exact go_callSX (bytes := cX4_needState) (maxL := 1) (ret := none) (n := 1) (As := [.int (mV M2 b10 0)]) (st := []) hX (cX_X4_needState K.2.1 hX.2.2 h14) (by unfold okY; decide +kernel) rfl m_153 m_151 m_152 m_2 rfl (by simp [Value.category]) (by decide) (by decide) dX4_crash_14
  refine go_callS (bytes := cX4_needState) (maxL := 1) (ret := none) (n := 1) (As := [.int (mV M2 b10 0)]) (st := []) hE (c_X4_needState K.2.1 h14) (by unfold okY; decide +kernel) rfl m_153 m_151 m_152 m_2 rfl (by simp [Value.category]) (by decide) (by decide) dX4_crash_14 ?_
  refine go_eq (pc' := 17) (st' := []) (M' := M13) (lv' := [(0, .ref v0), (1, .int v1)]) ?_ rfl rfl rfl rfl
  refine go_aload_n hC dX4_crash_17 rfl 0 rfl ?_
  obtain ⟨h16, h⟩ := os_1 h
  obtain ⟨b17, h18, h⟩ := os_b h
  refine go_getR 0 hC h16 rfl rfl h18 (C := RX4) (T := TX4) (N := 7) rfl inlX4 (by decide) m_14 (Or.inl rfl) dX4_crash_18 ?_
  refine go_iload_n hC dX4_crash_21 rfl 1 rfl ?_
  obtain ⟨h19, h⟩ := os_1 h
  obtain ⟨b21, h20, h⟩ := os_b h
  refine go_aald hC h19.1 h19.2 h20 dX4_crash_22 ?_
  refine go_iconst hC dX4_crash_23 (v := (0 : Int32)) (by decide +kernel) ?_
  obtain ⟨h22, h⟩ := os_1 h
  refine go_putV 0 hC h22.1 rfl rfl (C := RX2) (T := TX2) (N := 5) rfl inlX2 tyX2 tyX2_ok nmX2 (by decide) m_141 (Or.inl rfl) (Or.inl rfl) (tyX2_ok 0 (by decide)) (nar_z h22.2) (fit_z h22.2) dX4_crash_24 ?_
  refine go_iconst hC dX4_crash_27 (v := (0 : Int32)) (by decide +kernel) ?_
  refine go_istore_n (lv' := [(2, .int (0 : Int32)), (0, .ref v0), (1, .int v1)]) hC dX4_crash_28 rfl (by decide) rfl ?_
  refine go_sub (lv' := [(0, .ref v0), (1, .int v1), (2, .int (0 : Int32))]) [1, 2, 0] rfl ?_
  exact uX4_crash_29 hX k9 _ _ _ _ h
theorem cX_X4_crash (l : Launch) (hl : l.stackTraces = false) {x9 : Cx} {k9 : Nat} {M M9 : Mm} {c9 : Nat} {v0 : Nat} {v1 : Int32} (h : fX4_crash x9 k9 v0 v1 M = some (.inl c9, M9)) : FnX l x9 yX4_crash cX4_crash 4 none 8 131 [.ref v0, .int v1] M c9 M9 :=
  FnX.of hl (by decide +kernel) (Nat.le_of_ble_eq_true rfl) rfl (fun K _ hX => uX4_crash_0 hX _ _ _ h)
/-! X4_restart -/
def fX4_restart_82 (x9 : Cx) (k9 : Nat) (rec37 : Nat → Int32 → Int32 → Mm → Option ((Nat ⊕ Unit) × Mm)) (v0 : Nat) (v1 : Int32) (v2 : Int32) (M : Mm) : Option ((Nat ⊕ Unit) × Mm) :=
  rec37 v0 v1 (v2 + 1) M
set_option maxRecDepth 100000 in
set_option maxHeartbeats 4000000 in
theorem tX4_restart_82 {x9 : Cx} {K : Ct} {k9 : Nat} {M0 M9 : Mm} {r9 : Unit} (hE : Ce x9 K RX4 cX4_restart 4 none 10 240 "restart" M0) {rec37 : Nat → Int32 → Int32 → Mm → Option ((Nat ⊕ Unit) × Mm)} (hrec37 : ∀ (v0 : Nat) (v1 : Int32) (v2 : Int32) (M : Mm), rec37 v0 v1 v2 M = some (.inr r9, M9) → Go x9 K 4 (Qf x9 K M0 none M9) 37 [(0, .ref v0), (1, .int v1), (2, .int v2)] [] M) (v0 : Nat) (v1 : Int32) (v2 : Int32) (M : Mm) (h : fX4_restart_82 x9 k9 rec37 v0 v1 v2 M = some (.inr r9, M9)) : Go x9 K 4 (Qf x9 K M0 none M9) 82 [(0, .ref v0), (1, .int v1), (2, .int v2)] [] M := by
  have hC := hE.1
  have hnm := hE.2.2.2.2.2.2.2.1
  unfold fX4_restart_82 at h
  refine go_iinc (q := 2) (v := (v2 + 1)) (lv' := [(2, .int (v2 + 1)), (0, .ref v0), (1, .int v1)]) hC dX4_restart_82 rfl rfl (by decide) rfl ?_
  refine go_goto (t := 37) hC dX4_restart_85 (by decide) ?_
  refine go_sub (lv' := [(0, .ref v0), (1, .int v1), (2, .int (v2 + 1))]) [1, 2, 0] rfl ?_
  exact hrec37 _ _ _ _ h
def fX4_restart_37 (x9 : Cx) (k9 : Nat) : Nat → Nat → Int32 → Int32 → Mm → Option ((Nat ⊕ Unit) × Mm)
  | 0, _, _, _, _ => none
  | n9 + 1, v0, v1, v2, M => if mK M v0 = 5 then if (mV M v0 5) ≤ v2 then some (.inr (), M) else if mK M v0 = 5 then ob1 (mP M v0 1) (fun b4 => if mK M b4 = 7 then ob2 (fJx4a65c_get_915e3 x9 k9 b4 v2 M) (fun r6 M7 => if mK M7 r6 = 4 then if mK M7 r6 = 4 then if (mV M7 r6 1) = v1 then if mK M7 r6 = 4 then if (mV M7 r6 15) = 0 then fX4_restart_82 x9 k9 (fX4_restart_37 x9 k9 n9) v0 v1 v2 M7 else if mK M7 r6 = 4 ∧ ((0 : Int32) = 0 ∨ (0 : Int32) = 1) then if mK (sV M7 r6 15 (0 : Int32)) v0 = 5 then ob2 (fX4_giveUpLocks x9 k9 v0 r6 (sV M7 r6 15 (0 : Int32))) (fun r16 M17 => fX4_restart_82 x9 k9 (fX4_restart_37 x9 k9 n9) v0 v1 v2 M17) else none else none else none else fX4_restart_82 x9 k9 (fX4_restart_37 x9 k9 n9) v0 v1 v2 M7 else none else none) else none) else none else none
set_option maxRecDepth 100000 in
set_option maxHeartbeats 4000000 in
theorem tX4_restart_37 {x9 : Cx} {K : Ct} {k9 : Nat} {M0 M9 : Mm} {r9 : Unit} (hE : Ce x9 K RX4 cX4_restart 4 none 10 240 "restart" M0) : ∀ (n9 : Nat) (v0 : Nat) (v1 : Int32) (v2 : Int32) (M : Mm), fX4_restart_37 x9 k9 n9 v0 v1 v2 M = some (.inr r9, M9) → Go x9 K 4 (Qf x9 K M0 none M9) 37 [(0, .ref v0), (1, .int v1), (2, .int v2)] [] M := by
  have hC := hE.1
  have hnm := hE.2.2.2.2.2.2.2.1
  intro n9
  induction n9 with
  | zero => intro _ _ _ _ h; cases h
  | succ n9 ih =>
    intro v0 v1 v2 M h
    rw [fX4_restart_37] at h
    refine go_iload_n hC dX4_restart_37 rfl 2 rfl ?_
    refine go_aload_n hC dX4_restart_38 rfl 0 rfl ?_
    obtain ⟨h1, h⟩ := os_1 h
    refine go_getV 5 hC h1 rfl rfl (C := RX4) (T := TX4) (N := 7) rfl inlX4 (by decide) m_56 (Or.inl rfl) dX4_restart_39 ?_
    refine go_icmp_ge (t := 88) hC dX4_restart_42 (by decide) (fun c2 => ?_) (fun c2 => ?_)
    · have h := os_t h c2
      cases h
      exact go_vret hE dX4_restart_88
    · have h := os_f h c2
      refine go_aload_n hC dX4_restart_45 rfl 0 rfl ?_
      obtain ⟨h3, h⟩ := os_1 h
      obtain ⟨b4, h5, h⟩ := os_b h
      refine go_getR 1 hC h3 rfl rfl h5 (C := RX4) (T := TX4) (N := 7) rfl inlX4 (by decide) m_20 (Or.inl rfl) dX4_restart_46 ?_
      refine go_iload_n hC dX4_restart_49 rfl 2 rfl ?_
      obtain ⟨h9, h⟩ := os_1 h
      obtain ⟨r6, M7, h8, h⟩ := os_c h
      refine go_callV (bytes := cJx4a65c_get_915e3) (maxL := 2) (ret := (some (.object "java/lang/Object"))) (n := 1) (As := [.int v2]) (st := []) hE (c_Jx4a65c_get_915e3 K.2.1 h8) (by unfold okY; decide +kernel) rfl h9 rfl (C := RJx4a65c) (T := TJx4a65c) (N := 3) rfl m_220 m_217 m_218 m_219 m_19 rfl (by simp [Value.category]) (by decide) (by decide) dX4_restart_50 ?_
      refine go_eq (pc' := 53) (st' := [.ref r6]) (M' := M7) (lv' := [(0, .ref v0), (1, .int v1), (2, .int v2)]) ?_ rfl rfl rfl rfl
      obtain ⟨h10, h⟩ := os_1 h
      refine go_cast hC h10 rfl (C := RX3) (T := TX3) (N := 16) rfl m_145 dX4_restart_53 ?_
      refine go_astore_n (lv' := [(3, .ref r6), (0, .ref v0), (1, .int v1), (2, .int v2)]) hC dX4_restart_56 rfl (by decide) rfl ?_
      refine go_aload_n hC dX4_restart_57 rfl 0 rfl ?_
      obtain ⟨h11, h⟩ := os_1 h
      refine go_getV 1 hC h11 rfl rfl (C := RX3) (T := TX3) (N := 16) rfl inlX3 (by decide) m_265 (Or.inl rfl) dX4_restart_58 ?_
      refine go_iload_n hC dX4_restart_61 rfl 2 rfl ?_
      refine go_icmp_ne (t := 82) hC dX4_restart_62 (by decide) (fun c12 => ?_) (fun c12 => ?_)
      · have h := os_f h c12
        refine go_sub (lv' := [(0, .ref v0), (1, .int v1), (2, .int v2)]) [1, 2, 3] rfl ?_
        exact tX4_restart_82 hE ih _ _ _ _ h
      · have h := os_t h c12
        refine go_aload_n hC dX4_restart_65 rfl 0 rfl ?_
        obtain ⟨h13, h⟩ := os_1 h
        refine go_getV 15 hC h13 rfl rfl (C := RX3) (T := TX3) (N := 16) rfl inlX3 (by decide) m_737 (Or.inl rfl) dX4_restart_66 ?_
        refine go_if_eq (t := 82) hC dX4_restart_69 (by decide) (fun c14 => ?_) (fun c14 => ?_)
        · have h := os_t h c14
          refine go_sub (lv' := [(0, .ref v0), (1, .int v1), (2, .int v2)]) [1, 2, 3] rfl ?_
          exact tX4_restart_82 hE ih _ _ _ _ h
        · have h := os_f h c14
          refine go_aload_n hC dX4_restart_72 rfl 0 rfl ?_
          refine go_iconst hC dX4_restart_73 (v := (0 : Int32)) (by decide +kernel) ?_
          obtain ⟨h15, h⟩ := os_1 h
          refine go_putV 15 hC h15.1 rfl rfl (C := RX3) (T := TX3) (N := 16) rfl inlX3 tyX3 tyX3_ok nmX3 (by decide) m_737 (Or.inl rfl) (Or.inl rfl) (tyX3_ok 15 (by decide)) (nar_z h15.2) (fit_z h15.2) dX4_restart_74 ?_
          refine go_aload_n hC dX4_restart_77 rfl 1 rfl ?_
          refine go_aload_n hC dX4_restart_78 rfl 0 rfl ?_
          obtain ⟨h19, h⟩ := os_1 h
          obtain ⟨r16, M17, h18, h⟩ := os_c h
          refine go_callV (bytes := cX4_giveUpLocks) (maxL := 2) (ret := none) (n := 1) (As := [.ref r6]) (st := []) hE (c_X4_giveUpLocks K.2.1 h18) (by unfold okY; decide +kernel) rfl h19 rfl (C := RX4) (T := TX4) (N := 7) rfl m_588 m_585 m_586 m_587 m_2 rfl (by simp [Value.category]) (by decide) (by decide) dX4_restart_79 ?_
          refine go_eq (pc' := 82) (st' := []) (M' := M17) (lv' := [(3, .ref r6), (0, .ref v0), (1, .int v1), (2, .int v2)]) ?_ rfl rfl rfl rfl
          refine go_sub (lv' := [(0, .ref v0), (1, .int v1), (2, .int v2)]) [1, 2, 3] rfl ?_
          exact tX4_restart_82 hE ih _ _ _ _ h
def fX4_restart_22 (x9 : Cx) (k9 : Nat) (v0 : Nat) (v1 : Int32) (s0 : Int32) (M : Mm) : Option ((Nat ⊕ Unit) × Mm) :=
  obT (fX4_needState x9 k9 s0 M) (fun r1 M2 => if mK M2 v0 = 5 then ob1 (mP M2 v0 0) (fun b6 => if (mK M2 b6 = 10 ∨ mK M2 b6 = 11) ∧ ¬ (v1 < 0 ∨ mN M2 b6 ≤ (v1).toNatClampNeg) then ob1 (mP M2 b6 (v1).toNatClampNeg) (fun b10 => if mK M2 b10 = 3 ∧ ((1 : Int32) = 0 ∨ (1 : Int32) = 1) then fX4_restart_37 x9 k9 k9 v0 v1 (0 : Int32) (sV M2 b10 0 (1 : Int32)) else none) else none) else none)
set_option maxRecDepth 100000 in
set_option maxHeartbeats 4000000 in
theorem tX4_restart_22 {x9 : Cx} {K : Ct} {k9 : Nat} {M0 M9 : Mm} {r9 : Unit} (hE : Ce x9 K RX4 cX4_restart 4 none 10 240 "restart" M0) (v0 : Nat) (v1 : Int32) (s0 : Int32) (M : Mm) (h : fX4_restart_22 x9 k9 v0 v1 s0 M = some (.inr r9, M9)) : Go x9 K 4 (Qf x9 K M0 none M9) 22 [(0, .ref v0), (1, .int v1)] [.int s0] M := by
  have hC := hE.1
  have hnm := hE.2.2.2.2.2.2.2.1
  unfold fX4_restart_22 at h
  obtain ⟨r1, M2, h3, h⟩ := os_TR h
  refine go_callS (bytes := cX4_needState) (maxL := 1) (ret := none) (n := 1) (As := [.int s0]) (st := []) hE (c_X4_needState K.2.1 h3) (by unfold okY; decide +kernel) rfl m_153 m_151 m_152 m_2 rfl (by simp [Value.category]) (by decide) (by decide) dX4_restart_22 ?_
  refine go_eq (pc' := 25) (st' := []) (M' := M2) (lv' := [(0, .ref v0), (1, .int v1)]) ?_ rfl rfl rfl rfl
  refine go_aload_n hC dX4_restart_25 rfl 0 rfl ?_
  obtain ⟨h5, h⟩ := os_1 h
  obtain ⟨b6, h7, h⟩ := os_b h
  refine go_getR 0 hC h5 rfl rfl h7 (C := RX4) (T := TX4) (N := 7) rfl inlX4 (by decide) m_14 (Or.inl rfl) dX4_restart_26 ?_
  refine go_iload_n hC dX4_restart_29 rfl 1 rfl ?_
  obtain ⟨h8, h⟩ := os_1 h
  obtain ⟨b10, h9, h⟩ := os_b h
  refine go_aald hC h8.1 h8.2 h9 dX4_restart_30 ?_
  refine go_iconst hC dX4_restart_31 (v := (1 : Int32)) (by decide +kernel) ?_
  obtain ⟨h11, h⟩ := os_1 h
  refine go_putV 0 hC h11.1 rfl rfl (C := RX2) (T := TX2) (N := 5) rfl inlX2 tyX2 tyX2_ok nmX2 (by decide) m_141 (Or.inl rfl) (Or.inl rfl) (tyX2_ok 0 (by decide)) (nar_z h11.2) (fit_z h11.2) dX4_restart_32 ?_
  refine go_iconst hC dX4_restart_35 (v := (0 : Int32)) (by decide +kernel) ?_
  refine go_istore_n (lv' := [(2, .int (0 : Int32)), (0, .ref v0), (1, .int v1)]) hC dX4_restart_36 rfl (by decide) rfl ?_
  refine go_sub (lv' := [(0, .ref v0), (1, .int v1), (2, .int (0 : Int32))]) [1, 2, 0] rfl ?_
  exact tX4_restart_37 hE k9 _ _ _ _ h
def fX4_restart (x9 : Cx) (k9 : Nat) (v0 : Nat) (v1 : Int32) (M : Mm) : Option ((Nat ⊕ Unit) × Mm) :=
  if mK M v0 = 5 then obT (fX4_needSite x9 k9 v0 v1 M) (fun r1 M2 => if mK M2 v0 = 5 then ob1 (mP M2 v0 0) (fun b6 => if (mK M2 b6 = 10 ∨ mK M2 b6 = 11) ∧ ¬ (v1 < 0 ∨ mN M2 b6 ≤ (v1).toNatClampNeg) then ob1 (mP M2 b6 (v1).toNatClampNeg) (fun b10 => if mK M2 b10 = 3 then if (mV M2 b10 0) = 0 then fX4_restart_22 x9 k9 v0 v1 (1 : Int32) M2 else fX4_restart_22 x9 k9 v0 v1 (0 : Int32) M2 else none) else none) else none) else none
set_option maxRecDepth 100000 in
set_option maxHeartbeats 4000000 in
theorem tX4_restart_0 {x9 : Cx} {K : Ct} {k9 : Nat} {M0 M9 : Mm} {r9 : Unit} (hE : Ce x9 K RX4 cX4_restart 4 none 10 240 "restart" M0) (v0 : Nat) (v1 : Int32) (M : Mm) (h : fX4_restart x9 k9 v0 v1 M = some (.inr r9, M9)) : Go x9 K 4 (Qf x9 K M0 none M9) 0 [(0, .ref v0), (1, .int v1)] [] M := by
  have hC := hE.1
  have hnm := hE.2.2.2.2.2.2.2.1
  unfold fX4_restart at h
  refine go_aload_n hC dX4_restart_0 rfl 0 rfl ?_
  refine go_iload_n hC dX4_restart_1 rfl 1 rfl ?_
  obtain ⟨h4, h⟩ := os_1 h
  obtain ⟨r1, M2, h3, h⟩ := os_TR h
  refine go_callV (bytes := cX4_needSite) (maxL := 2) (ret := none) (n := 1) (As := [.int v1]) (st := []) hE (c_X4_needSite K.2.1 h3) (by unfold okY; decide +kernel) rfl h4 rfl (C := RX4) (T := TX4) (N := 7) rfl m_150 m_147 m_148 m_149 m_2 rfl (by simp [Value.category]) (by decide) (by decide) dX4_restart_2 ?_
  refine go_eq (pc' := 5) (st' := []) (M' := M2) (lv' := [(0, .ref v0), (1, .int v1)]) ?_ rfl rfl rfl rfl
  refine go_aload_n hC dX4_restart_5 rfl 0 rfl ?_
  obtain ⟨h5, h⟩ := os_1 h
  obtain ⟨b6, h7, h⟩ := os_b h
  refine go_getR 0 hC h5 rfl rfl h7 (C := RX4) (T := TX4) (N := 7) rfl inlX4 (by decide) m_14 (Or.inl rfl) dX4_restart_6 ?_
  refine go_iload_n hC dX4_restart_9 rfl 1 rfl ?_
  obtain ⟨h8, h⟩ := os_1 h
  obtain ⟨b10, h9, h⟩ := os_b h
  refine go_aald hC h8.1 h8.2 h9 dX4_restart_10 ?_
  obtain ⟨h11, h⟩ := os_1 h
  refine go_getV 0 hC h11 rfl rfl (C := RX2) (T := TX2) (N := 5) rfl inlX2 (by decide) m_141 (Or.inl rfl) dX4_restart_11 ?_
  refine go_if_ne (t := 21) hC dX4_restart_14 (by decide) (fun c12 => ?_) (fun c12 => ?_)
  · have h := os_f h c12
    refine go_iconst hC dX4_restart_21 (v := (0 : Int32)) (by decide +kernel) ?_
    exact tX4_restart_22 hE _ _ _ _ h
  · have h := os_t h c12
    refine go_iconst hC dX4_restart_17 (v := (1 : Int32)) (by decide +kernel) ?_
    refine go_goto (t := 22) hC dX4_restart_18 (by decide) ?_
    exact tX4_restart_22 hE _ _ _ _ h
theorem c_X4_restart (l : Launch) {x9 : Cx} {k9 : Nat} {M M9 : Mm} {r9 : Unit} {v0 : Nat} {v1 : Int32} (h : fX4_restart x9 k9 v0 v1 M = some (.inr r9, M9)) : Fn l x9 yX4_restart cX4_restart 4 none 10 240 [.ref v0, .int v1] M none M9 :=
  Fn.of (by decide +kernel) (Nat.le_of_ble_eq_true rfl) rfl (fun K _ hE => tX4_restart_0 hE _ _ _ h)
set_option maxRecDepth 100000 in
set_option maxHeartbeats 4000000 in
theorem uX4_restart_82 {x9 : Cx} {K : Ct} {k9 : Nat} {M0 M9 : Mm} {c9 : Nat} (hX : CeX x9 K RX4 cX4_restart 4 none 10 240 "restart" M0) {rec37 : Nat → Int32 → Int32 → Mm → Option ((Nat ⊕ Unit) × Mm)} (hrec37 : ∀ (v0 : Nat) (v1 : Int32) (v2 : Int32) (M : Mm), rec37 v0 v1 v2 M = some (.inl c9, M9) → Go x9 K 4 (QX x9 K M0 c9 M9) 37 [(0, .ref v0), (1, .int v1), (2, .int v2)] [] M) (v0 : Nat) (v1 : Int32) (v2 : Int32) (M : Mm) (h : fX4_restart_82 x9 k9 rec37 v0 v1 v2 M = some (.inl c9, M9)) : Go x9 K 4 (QX x9 K M0 c9 M9) 82 [(0, .ref v0), (1, .int v1), (2, .int v2)] [] M := by
  have hE := hX.1
  have hC := hE.1
  unfold fX4_restart_82 at h
  refine go_iinc (q := 2) (v := (v2 + 1)) (lv' := [(2, .int (v2 + 1)), (0, .ref v0), (1, .int v1)]) hC dX4_restart_82 rfl rfl (by decide) rfl ?_
  refine go_goto (t := 37) hC dX4_restart_85 (by decide) ?_
  refine go_sub (lv' := [(0, .ref v0), (1, .int v1), (2, .int (v2 + 1))]) [1, 2, 0] rfl ?_
  exact hrec37 _ _ _ _ h
set_option maxRecDepth 100000 in
set_option maxHeartbeats 4000000 in
theorem uX4_restart_37 {x9 : Cx} {K : Ct} {k9 : Nat} {M0 M9 : Mm} {c9 : Nat} (hX : CeX x9 K RX4 cX4_restart 4 none 10 240 "restart" M0) : ∀ (n9 : Nat) (v0 : Nat) (v1 : Int32) (v2 : Int32) (M : Mm), fX4_restart_37 x9 k9 n9 v0 v1 v2 M = some (.inl c9, M9) → Go x9 K 4 (QX x9 K M0 c9 M9) 37 [(0, .ref v0), (1, .int v1), (2, .int v2)] [] M := by
  have hE := hX.1
  have hC := hE.1
  intro n9
  induction n9 with
  | zero => intro _ _ _ _ h; cases h
  | succ n9 ih =>
    intro v0 v1 v2 M h
    rw [fX4_restart_37] at h
    refine go_iload_n hC dX4_restart_37 rfl 2 rfl ?_
    refine go_aload_n hC dX4_restart_38 rfl 0 rfl ?_
    obtain ⟨h1, h⟩ := os_1 h
    refine go_getV 5 hC h1 rfl rfl (C := RX4) (T := TX4) (N := 7) rfl inlX4 (by decide) m_56 (Or.inl rfl) dX4_restart_39 ?_
    refine go_icmp_ge (t := 88) hC dX4_restart_42 (by decide) (fun c2 => ?_) (fun c2 => ?_)
    · have h := os_t h c2
      cases h
    · have h := os_f h c2
      refine go_aload_n hC dX4_restart_45 rfl 0 rfl ?_
      obtain ⟨h3, h⟩ := os_1 h
      obtain ⟨b4, h5, h⟩ := os_b h
      refine go_getR 1 hC h3 rfl rfl h5 (C := RX4) (T := TX4) (N := 7) rfl inlX4 (by decide) m_20 (Or.inl rfl) dX4_restart_46 ?_
      refine go_iload_n hC dX4_restart_49 rfl 2 rfl ?_
      obtain ⟨h9, h⟩ := os_1 h
      obtain ⟨r6, M7, h8, h⟩ := os_c h
      refine go_callV (bytes := cJx4a65c_get_915e3) (maxL := 2) (ret := (some (.object "java/lang/Object"))) (n := 1) (As := [.int v2]) (st := []) hE (c_Jx4a65c_get_915e3 K.2.1 h8) (by unfold okY; decide +kernel) rfl h9 rfl (C := RJx4a65c) (T := TJx4a65c) (N := 3) rfl m_220 m_217 m_218 m_219 m_19 rfl (by simp [Value.category]) (by decide) (by decide) dX4_restart_50 ?_
      refine go_eq (pc' := 53) (st' := [.ref r6]) (M' := M7) (lv' := [(0, .ref v0), (1, .int v1), (2, .int v2)]) ?_ rfl rfl rfl rfl
      obtain ⟨h10, h⟩ := os_1 h
      refine go_cast hC h10 rfl (C := RX3) (T := TX3) (N := 16) rfl m_145 dX4_restart_53 ?_
      refine go_astore_n (lv' := [(3, .ref r6), (0, .ref v0), (1, .int v1), (2, .int v2)]) hC dX4_restart_56 rfl (by decide) rfl ?_
      refine go_aload_n hC dX4_restart_57 rfl 0 rfl ?_
      obtain ⟨h11, h⟩ := os_1 h
      refine go_getV 1 hC h11 rfl rfl (C := RX3) (T := TX3) (N := 16) rfl inlX3 (by decide) m_265 (Or.inl rfl) dX4_restart_58 ?_
      refine go_iload_n hC dX4_restart_61 rfl 2 rfl ?_
      refine go_icmp_ne (t := 82) hC dX4_restart_62 (by decide) (fun c12 => ?_) (fun c12 => ?_)
      · have h := os_f h c12
        refine go_sub (lv' := [(0, .ref v0), (1, .int v1), (2, .int v2)]) [1, 2, 3] rfl ?_
        exact uX4_restart_82 hX ih _ _ _ _ h
      · have h := os_t h c12
        refine go_aload_n hC dX4_restart_65 rfl 0 rfl ?_
        obtain ⟨h13, h⟩ := os_1 h
        refine go_getV 15 hC h13 rfl rfl (C := RX3) (T := TX3) (N := 16) rfl inlX3 (by decide) m_737 (Or.inl rfl) dX4_restart_66 ?_
        refine go_if_eq (t := 82) hC dX4_restart_69 (by decide) (fun c14 => ?_) (fun c14 => ?_)
        · have h := os_t h c14
          refine go_sub (lv' := [(0, .ref v0), (1, .int v1), (2, .int v2)]) [1, 2, 3] rfl ?_
          exact uX4_restart_82 hX ih _ _ _ _ h
        · have h := os_f h c14
          refine go_aload_n hC dX4_restart_72 rfl 0 rfl ?_
          refine go_iconst hC dX4_restart_73 (v := (0 : Int32)) (by decide +kernel) ?_
          obtain ⟨h15, h⟩ := os_1 h
          refine go_putV 15 hC h15.1 rfl rfl (C := RX3) (T := TX3) (N := 16) rfl inlX3 tyX3 tyX3_ok nmX3 (by decide) m_737 (Or.inl rfl) (Or.inl rfl) (tyX3_ok 15 (by decide)) (nar_z h15.2) (fit_z h15.2) dX4_restart_74 ?_
          refine go_aload_n hC dX4_restart_77 rfl 1 rfl ?_
          refine go_aload_n hC dX4_restart_78 rfl 0 rfl ?_
          obtain ⟨h19, h⟩ := os_1 h
          obtain ⟨r16, M17, h18, h⟩ := os_c h
          refine go_callV (bytes := cX4_giveUpLocks) (maxL := 2) (ret := none) (n := 1) (As := [.ref r6]) (st := []) hE (c_X4_giveUpLocks K.2.1 h18) (by unfold okY; decide +kernel) rfl h19 rfl (C := RX4) (T := TX4) (N := 7) rfl m_588 m_585 m_586 m_587 m_2 rfl (by simp [Value.category]) (by decide) (by decide) dX4_restart_79 ?_
          refine go_eq (pc' := 82) (st' := []) (M' := M17) (lv' := [(3, .ref r6), (0, .ref v0), (1, .int v1), (2, .int v2)]) ?_ rfl rfl rfl rfl
          refine go_sub (lv' := [(0, .ref v0), (1, .int v1), (2, .int v2)]) [1, 2, 3] rfl ?_
          exact uX4_restart_82 hX ih _ _ _ _ h
set_option maxRecDepth 100000 in
set_option maxHeartbeats 4000000 in
theorem uX4_restart_22 {x9 : Cx} {K : Ct} {k9 : Nat} {M0 M9 : Mm} {c9 : Nat} (hX : CeX x9 K RX4 cX4_restart 4 none 10 240 "restart" M0) (v0 : Nat) (v1 : Int32) (s0 : Int32) (M : Mm) (h : fX4_restart_22 x9 k9 v0 v1 s0 M = some (.inl c9, M9)) : Go x9 K 4 (QX x9 K M0 c9 M9) 22 [(0, .ref v0), (1, .int v1)] [.int s0] M := by
  have hE := hX.1
  have hC := hE.1
  unfold fX4_restart_22 at h
  rcases os_TX h with h3 | ⟨r1, M2, h3, h⟩
  · exact go_callSX (bytes := cX4_needState) (maxL := 1) (ret := none) (n := 1) (As := [.int s0]) (st := []) hX (cX_X4_needState K.2.1 hX.2.2 h3) (by unfold okY; decide +kernel) rfl m_153 m_151 m_152 m_2 rfl (by simp [Value.category]) (by decide) (by decide) dX4_restart_22
  refine go_callS (bytes := cX4_needState) (maxL := 1) (ret := none) (n := 1) (As := [.int s0]) (st := []) hE (c_X4_needState K.2.1 h3) (by unfold okY; decide +kernel) rfl m_153 m_151 m_152 m_2 rfl (by simp [Value.category]) (by decide) (by decide) dX4_restart_22 ?_
  refine go_eq (pc' := 25) (st' := []) (M' := M2) (lv' := [(0, .ref v0), (1, .int v1)]) ?_ rfl rfl rfl rfl
  refine go_aload_n hC dX4_restart_25 rfl 0 rfl ?_
  obtain ⟨h5, h⟩ := os_1 h
  obtain ⟨b6, h7, h⟩ := os_b h
  refine go_getR 0 hC h5 rfl rfl h7 (C := RX4) (T := TX4) (N := 7) rfl inlX4 (by decide) m_14 (Or.inl rfl) dX4_restart_26 ?_
  refine go_iload_n hC dX4_restart_29 rfl 1 rfl ?_
  obtain ⟨h8, h⟩ := os_1 h
  obtain ⟨b10, h9, h⟩ := os_b h
  refine go_aald hC h8.1 h8.2 h9 dX4_restart_30 ?_
  refine go_iconst hC dX4_restart_31 (v := (1 : Int32)) (by decide +kernel) ?_
  obtain ⟨h11, h⟩ := os_1 h
  refine go_putV 0 hC h11.1 rfl rfl (C := RX2) (T := TX2) (N := 5) rfl inlX2 tyX2 tyX2_ok nmX2 (by decide) m_141 (Or.inl rfl) (Or.inl rfl) (tyX2_ok 0 (by decide)) (nar_z h11.2) (fit_z h11.2) dX4_restart_32 ?_
  refine go_iconst hC dX4_restart_35 (v := (0 : Int32)) (by decide +kernel) ?_
  refine go_istore_n (lv' := [(2, .int (0 : Int32)), (0, .ref v0), (1, .int v1)]) hC dX4_restart_36 rfl (by decide) rfl ?_
  refine go_sub (lv' := [(0, .ref v0), (1, .int v1), (2, .int (0 : Int32))]) [1, 2, 0] rfl ?_
  exact uX4_restart_37 hX k9 _ _ _ _ h
set_option maxRecDepth 100000 in
set_option maxHeartbeats 4000000 in
theorem uX4_restart_0 {x9 : Cx} {K : Ct} {k9 : Nat} {M0 M9 : Mm} {c9 : Nat} (hX : CeX x9 K RX4 cX4_restart 4 none 10 240 "restart" M0) (v0 : Nat) (v1 : Int32) (M : Mm) (h : fX4_restart x9 k9 v0 v1 M = some (.inl c9, M9)) : Go x9 K 4 (QX x9 K M0 c9 M9) 0 [(0, .ref v0), (1, .int v1)] [] M := by
  have hE := hX.1
  have hC := hE.1
  unfold fX4_restart at h
  refine go_aload_n hC dX4_restart_0 rfl 0 rfl ?_
  refine go_iload_n hC dX4_restart_1 rfl 1 rfl ?_
  obtain ⟨h4, h⟩ := os_1 h
  rcases os_TX h with h3 | ⟨r1, M2, h3, h⟩
  · exact go_callVX (bytes := cX4_needSite) (maxL := 2) (ret := none) (n := 1) (As := [.int v1]) (st := []) hX (cX_X4_needSite K.2.1 hX.2.2 h3) (by unfold okY; decide +kernel) rfl h4 rfl (C := RX4) (T := TX4) (N := 7) rfl m_150 m_147 m_148 m_149 m_2 rfl (by simp [Value.category]) (by decide) (by decide) dX4_restart_2
  refine go_callV (bytes := cX4_needSite) (maxL := 2) (ret := none) (n := 1) (As := [.int v1]) (st := []) hE (c_X4_needSite K.2.1 h3) (by unfold okY; decide +kernel) rfl h4 rfl (C := RX4) (T := TX4) (N := 7) rfl m_150 m_147 m_148 m_149 m_2 rfl (by simp [Value.category]) (by decide) (by decide) dX4_restart_2 ?_
  refine go_eq (pc' := 5) (st' := []) (M' := M2) (lv' := [(0, .ref v0), (1, .int v1)]) ?_ rfl rfl rfl rfl
  refine go_aload_n hC dX4_restart_5 rfl 0 rfl ?_
  obtain ⟨h5, h⟩ := os_1 h
  obtain ⟨b6, h7, h⟩ := os_b h
  refine go_getR 0 hC h5 rfl rfl h7 (C := RX4) (T := TX4) (N := 7) rfl inlX4 (by decide) m_14 (Or.inl rfl) dX4_restart_6 ?_
  refine go_iload_n hC dX4_restart_9 rfl 1 rfl ?_
  obtain ⟨h8, h⟩ := os_1 h
  obtain ⟨b10, h9, h⟩ := os_b h
  refine go_aald hC h8.1 h8.2 h9 dX4_restart_10 ?_
  obtain ⟨h11, h⟩ := os_1 h
  refine go_getV 0 hC h11 rfl rfl (C := RX2) (T := TX2) (N := 5) rfl inlX2 (by decide) m_141 (Or.inl rfl) dX4_restart_11 ?_
  refine go_if_ne (t := 21) hC dX4_restart_14 (by decide) (fun c12 => ?_) (fun c12 => ?_)
  · have h := os_f h c12
    refine go_iconst hC dX4_restart_21 (v := (0 : Int32)) (by decide +kernel) ?_
    exact uX4_restart_22 hX _ _ _ _ h
  · have h := os_t h c12
    refine go_iconst hC dX4_restart_17 (v := (1 : Int32)) (by decide +kernel) ?_
    refine go_goto (t := 22) hC dX4_restart_18 (by decide) ?_
    exact uX4_restart_22 hX _ _ _ _ h
theorem cX_X4_restart (l : Launch) (hl : l.stackTraces = false) {x9 : Cx} {k9 : Nat} {M M9 : Mm} {c9 : Nat} {v0 : Nat} {v1 : Int32} (h : fX4_restart x9 k9 v0 v1 M = some (.inl c9, M9)) : FnX l x9 yX4_restart cX4_restart 4 none 10 240 [.ref v0, .int v1] M c9 M9 :=
  FnX.of hl (by decide +kernel) (Nat.le_of_ble_eq_true rfl) rfl (fun K _ hX => uX4_restart_0 hX _ _ _ h)
/-! X4_about -/
def fX4_about (x9 : Cx) (k9 : Nat) (v0 : Nat) (v1 : Int32) (v2 : Int32) (M : Mm) : Option ((Nat ⊕ Int32) × Mm) :=
  if mK M v0 = 5 then obT (fX4_needTransaction x9 k9 v0 v1 M) (fun r1 M2 => if mK M2 v0 = 5 then ob1 (mP M2 v0 1) (fun b6 => if mK M2 b6 = 7 then ob2 (fJx4a65c_get_915e3 x9 k9 b6 v1 M2) (fun r8 M9 => if mK M9 r8 = 4 then if v2 = (0 : Int32) then if mK M9 r8 = 4 then some (.inr (mV M9 r8 2), M9) else none else if v2 = (1 : Int32) then if mK M9 r8 = 4 then some (.inr (mV M9 r8 1), M9) else none else if v2 = (2 : Int32) then if mK M9 r8 = 4 then some (.inr (mV M9 r8 3), M9) else none else if v2 = (3 : Int32) then if mK M9 r8 = 4 then ob2 (fJ6_bitCount_0f7a4 x9 k9 (mV M9 r8 12) M9) (fun r21 M22 => some (.inr r21, M22)) else none else if v2 = (4 : Int32) then if mK M9 r8 = 4 then ob2 (fJ6_bitCount_0f7a4 x9 k9 (mV M9 r8 11) M9) (fun r27 M28 => some (.inr r27, M28)) else none else if mX M9 + 1 ≤ xC x9 ∧ mS M9 + 6 ≤ xL x9 then some (.inl 1, M9) else none else none) else none) else none) else none
set_option maxRecDepth 100000 in
set_option maxHeartbeats 4000000 in
theorem tX4_about_0 {x9 : Cx} {K : Ct} {k9 : Nat} {M0 M9 : Mm} {r9 : Int32} (hE : Ce x9 K RX4 cX4_about 4 (some .int) 8 131 "about" M0) (v0 : Nat) (v1 : Int32) (v2 : Int32) (M : Mm) (h : fX4_about x9 k9 v0 v1 v2 M = some (.inr r9, M9)) : Go x9 K 4 (Qf x9 K M0 (some (.int r9)) M9) 0 [(0, .ref v0), (1, .int v1), (2, .int v2)] [] M := by
  have hC := hE.1
  have hnm := hE.2.2.2.2.2.2.2.1
  unfold fX4_about at h
  refine go_aload_n hC dX4_about_0 rfl 0 rfl ?_
  refine go_iload_n hC dX4_about_1 rfl 1 rfl ?_
  obtain ⟨h4, h⟩ := os_1 h
  obtain ⟨r1, M2, h3, h⟩ := os_TR h
  refine go_callV (bytes := cX4_needTransaction) (maxL := 2) (ret := none) (n := 1) (As := [.int v1]) (st := []) hE (c_X4_needTransaction K.2.1 h3) (by unfold okY; decide +kernel) rfl h4 rfl (C := RX4) (T := TX4) (N := 7) rfl m_270 m_267 m_268 m_269 m_2 rfl (by simp [Value.category]) (by decide) (by decide) dX4_about_2 ?_
  refine go_eq (pc' := 5) (st' := []) (M' := M2) (lv' := [(0, .ref v0), (1, .int v1), (2, .int v2)]) ?_ rfl rfl rfl rfl
  refine go_aload_n hC dX4_about_5 rfl 0 rfl ?_
  obtain ⟨h5, h⟩ := os_1 h
  obtain ⟨b6, h7, h⟩ := os_b h
  refine go_getR 1 hC h5 rfl rfl h7 (C := RX4) (T := TX4) (N := 7) rfl inlX4 (by decide) m_20 (Or.inl rfl) dX4_about_6 ?_
  refine go_iload_n hC dX4_about_9 rfl 1 rfl ?_
  obtain ⟨h11, h⟩ := os_1 h
  obtain ⟨r8, M9, h10, h⟩ := os_c h
  refine go_callV (bytes := cJx4a65c_get_915e3) (maxL := 2) (ret := (some (.object "java/lang/Object"))) (n := 1) (As := [.int v1]) (st := []) hE (c_Jx4a65c_get_915e3 K.2.1 h10) (by unfold okY; decide +kernel) rfl h11 rfl (C := RJx4a65c) (T := TJx4a65c) (N := 3) rfl m_220 m_217 m_218 m_219 m_19 rfl (by simp [Value.category]) (by decide) (by decide) dX4_about_10 ?_
  refine go_eq (pc' := 13) (st' := [.ref r8]) (M' := M9) (lv' := [(0, .ref v0), (1, .int v1), (2, .int v2)]) ?_ rfl rfl rfl rfl
  obtain ⟨h12, h⟩ := os_1 h
  refine go_cast hC h12 rfl (C := RX3) (T := TX3) (N := 16) rfl m_145 dX4_about_13 ?_
  refine go_astore_n (lv' := [(3, .ref r8), (0, .ref v0), (1, .int v1), (2, .int v2)]) hC dX4_about_16 rfl (by decide) rfl ?_
  refine go_iload_n hC dX4_about_17 rfl 3 rfl ?_
  by_cases c13 : v2 = (0 : Int32)
  · have h := os_t h c13
    refine go_tabIn (a := v2) (off := 34) (t := 52) hC dX4_about_18 (by rw [c13]; decide +kernel) (by rw [c13]; decide +kernel) (by rw [c13]; decide +kernel) (by decide) ?_
    refine go_aload_n hC dX4_about_52 rfl 0 rfl ?_
    obtain ⟨h14, h⟩ := os_1 h
    refine go_getV 2 hC h14 rfl rfl (C := RX3) (T := TX3) (N := 16) rfl inlX3 (by decide) m_277 (Or.inl rfl) dX4_about_53 ?_
    cases h
    exact go_iret hE dX4_about_56
  have h := os_f h c13
  by_cases c15 : v2 = (1 : Int32)
  · have h := os_t h c15
    refine go_tabIn (a := v2) (off := 39) (t := 57) hC dX4_about_18 (by rw [c15]; decide +kernel) (by rw [c15]; decide +kernel) (by rw [c15]; decide +kernel) (by decide) ?_
    refine go_aload_n hC dX4_about_57 rfl 0 rfl ?_
    obtain ⟨h16, h⟩ := os_1 h
    refine go_getV 1 hC h16 rfl rfl (C := RX3) (T := TX3) (N := 16) rfl inlX3 (by decide) m_265 (Or.inl rfl) dX4_about_58 ?_
    cases h
    exact go_iret hE dX4_about_61
  have h := os_f h c15
  by_cases c17 : v2 = (2 : Int32)
  · have h := os_t h c17
    refine go_tabIn (a := v2) (off := 44) (t := 62) hC dX4_about_18 (by rw [c17]; decide +kernel) (by rw [c17]; decide +kernel) (by rw [c17]; decide +kernel) (by decide) ?_
    refine go_aload_n hC dX4_about_62 rfl 0 rfl ?_
    obtain ⟨h18, h⟩ := os_1 h
    refine go_getV 3 hC h18 rfl rfl (C := RX3) (T := TX3) (N := 16) rfl inlX3 (by decide) m_418 (Or.inl rfl) dX4_about_63 ?_
    cases h
    exact go_iret hE dX4_about_66
  have h := os_f h c17
  by_cases c19 : v2 = (3 : Int32)
  · have h := os_t h c19
    refine go_tabIn (a := v2) (off := 49) (t := 67) hC dX4_about_18 (by rw [c19]; decide +kernel) (by rw [c19]; decide +kernel) (by rw [c19]; decide +kernel) (by decide) ?_
    refine go_aload_n hC dX4_about_67 rfl 0 rfl ?_
    obtain ⟨h20, h⟩ := os_1 h
    refine go_getV 12 hC h20 rfl rfl (C := RX3) (T := TX3) (N := 16) rfl inlX3 (by decide) m_423 (Or.inl rfl) dX4_about_68 ?_
    obtain ⟨r21, M22, h23, h⟩ := os_c h
    refine go_callS (bytes := cJ6_bitCount_0f7a4) (maxL := 1) (ret := (some .int)) (n := 1) (As := [.int (mV M9 r8 12)]) (st := []) hE (c_J6_bitCount_0f7a4 K.2.1 h23) (by unfold okY; decide +kernel) rfl m_328 m_466 m_326 m_327 rfl (by simp [Value.category]) (by decide) (by decide) dX4_about_71 ?_
    refine go_eq (pc' := 74) (st' := [.int r21]) (M' := M22) (lv' := [(3, .ref r8), (0, .ref v0), (1, .int v1), (2, .int v2)]) ?_ rfl rfl rfl rfl
    cases h
    exact go_iret hE dX4_about_74
  have h := os_f h c19
  by_cases c25 : v2 = (4 : Int32)
  · have h := os_t h c25
    refine go_tabIn (a := v2) (off := 57) (t := 75) hC dX4_about_18 (by rw [c25]; decide +kernel) (by rw [c25]; decide +kernel) (by rw [c25]; decide +kernel) (by decide) ?_
    refine go_aload_n hC dX4_about_75 rfl 0 rfl ?_
    obtain ⟨h26, h⟩ := os_1 h
    refine go_getV 11 hC h26 rfl rfl (C := RX3) (T := TX3) (N := 16) rfl inlX3 (by decide) m_526 (Or.inl rfl) dX4_about_76 ?_
    obtain ⟨r27, M28, h29, h⟩ := os_c h
    refine go_callS (bytes := cJ6_bitCount_0f7a4) (maxL := 1) (ret := (some .int)) (n := 1) (As := [.int (mV M9 r8 11)]) (st := []) hE (c_J6_bitCount_0f7a4 K.2.1 h29) (by unfold okY; decide +kernel) rfl m_328 m_466 m_326 m_327 rfl (by simp [Value.category]) (by decide) (by decide) dX4_about_79 ?_
    refine go_eq (pc' := 82) (st' := [.int r27]) (M' := M28) (lv' := [(3, .ref r8), (0, .ref v0), (1, .int v1), (2, .int v2)]) ?_ rfl rfl rfl rfl
    cases h
    exact go_iret hE dX4_about_82
  have h := os_f h c25
  refine go_tabOut (a := v2) (t := 83) hC dX4_about_18 (by have z0 := lv_neT c13 (a := 0) (by decide +kernel); have z1 := lv_neT c15 (a := 1) (by decide +kernel); have z2 := lv_neT c17 (a := 2) (by decide +kernel); have z3 := lv_neT c19 (a := 3) (by decide +kernel); have z4 := lv_neT c25 (a := 4) (by decide +kernel); omega) (by decide) ?_
  obtain ⟨h31, h⟩ := os_1 h
  cases h
theorem c_X4_about (l : Launch) {x9 : Cx} {k9 : Nat} {M M9 : Mm} {r9 : Int32} {v0 : Nat} {v1 : Int32} {v2 : Int32} (h : fX4_about x9 k9 v0 v1 v2 M = some (.inr r9, M9)) : Fn l x9 yX4_about cX4_about 4 (some .int) 8 131 [.ref v0, .int v1, .int v2] M (some (.int r9)) M9 :=
  Fn.of (by decide +kernel) (Nat.le_of_ble_eq_true rfl) rfl (fun K _ hE => tX4_about_0 hE _ _ _ _ h)
set_option maxRecDepth 100000 in
set_option maxHeartbeats 4000000 in
theorem uX4_about_0 {x9 : Cx} {K : Ct} {k9 : Nat} {M0 M9 : Mm} {c9 : Nat} (hX : CeX x9 K RX4 cX4_about 4 (some .int) 8 131 "about" M0) (v0 : Nat) (v1 : Int32) (v2 : Int32) (M : Mm) (h : fX4_about x9 k9 v0 v1 v2 M = some (.inl c9, M9)) : Go x9 K 4 (QX x9 K M0 c9 M9) 0 [(0, .ref v0), (1, .int v1), (2, .int v2)] [] M := by
  have hE := hX.1
  have hC := hE.1
  unfold fX4_about at h
  refine go_aload_n hC dX4_about_0 rfl 0 rfl ?_
  refine go_iload_n hC dX4_about_1 rfl 1 rfl ?_
  obtain ⟨h4, h⟩ := os_1 h
  rcases os_TX h with h3 | ⟨r1, M2, h3, h⟩
  · exact go_callVX (bytes := cX4_needTransaction) (maxL := 2) (ret := none) (n := 1) (As := [.int v1]) (st := []) hX (cX_X4_needTransaction K.2.1 hX.2.2 h3) (by unfold okY; decide +kernel) rfl h4 rfl (C := RX4) (T := TX4) (N := 7) rfl m_270 m_267 m_268 m_269 m_2 rfl (by simp [Value.category]) (by decide) (by decide) dX4_about_2
  refine go_callV (bytes := cX4_needTransaction) (maxL := 2) (ret := none) (n := 1) (As := [.int v1]) (st := []) hE (c_X4_needTransaction K.2.1 h3) (by unfold okY; decide +kernel) rfl h4 rfl (C := RX4) (T := TX4) (N := 7) rfl m_270 m_267 m_268 m_269 m_2 rfl (by simp [Value.category]) (by decide) (by decide) dX4_about_2 ?_
  refine go_eq (pc' := 5) (st' := []) (M' := M2) (lv' := [(0, .ref v0), (1, .int v1), (2, .int v2)]) ?_ rfl rfl rfl rfl
  refine go_aload_n hC dX4_about_5 rfl 0 rfl ?_
  obtain ⟨h5, h⟩ := os_1 h
  obtain ⟨b6, h7, h⟩ := os_b h
  refine go_getR 1 hC h5 rfl rfl h7 (C := RX4) (T := TX4) (N := 7) rfl inlX4 (by decide) m_20 (Or.inl rfl) dX4_about_6 ?_
  refine go_iload_n hC dX4_about_9 rfl 1 rfl ?_
  obtain ⟨h11, h⟩ := os_1 h
  obtain ⟨r8, M9, h10, h⟩ := os_c h
  refine go_callV (bytes := cJx4a65c_get_915e3) (maxL := 2) (ret := (some (.object "java/lang/Object"))) (n := 1) (As := [.int v1]) (st := []) hE (c_Jx4a65c_get_915e3 K.2.1 h10) (by unfold okY; decide +kernel) rfl h11 rfl (C := RJx4a65c) (T := TJx4a65c) (N := 3) rfl m_220 m_217 m_218 m_219 m_19 rfl (by simp [Value.category]) (by decide) (by decide) dX4_about_10 ?_
  refine go_eq (pc' := 13) (st' := [.ref r8]) (M' := M9) (lv' := [(0, .ref v0), (1, .int v1), (2, .int v2)]) ?_ rfl rfl rfl rfl
  obtain ⟨h12, h⟩ := os_1 h
  refine go_cast hC h12 rfl (C := RX3) (T := TX3) (N := 16) rfl m_145 dX4_about_13 ?_
  refine go_astore_n (lv' := [(3, .ref r8), (0, .ref v0), (1, .int v1), (2, .int v2)]) hC dX4_about_16 rfl (by decide) rfl ?_
  refine go_iload_n hC dX4_about_17 rfl 3 rfl ?_
  by_cases c13 : v2 = (0 : Int32)
  · have h := os_t h c13
    refine go_tabIn (a := v2) (off := 34) (t := 52) hC dX4_about_18 (by rw [c13]; decide +kernel) (by rw [c13]; decide +kernel) (by rw [c13]; decide +kernel) (by decide) ?_
    refine go_aload_n hC dX4_about_52 rfl 0 rfl ?_
    obtain ⟨h14, h⟩ := os_1 h
    refine go_getV 2 hC h14 rfl rfl (C := RX3) (T := TX3) (N := 16) rfl inlX3 (by decide) m_277 (Or.inl rfl) dX4_about_53 ?_
    cases h
  have h := os_f h c13
  by_cases c15 : v2 = (1 : Int32)
  · have h := os_t h c15
    refine go_tabIn (a := v2) (off := 39) (t := 57) hC dX4_about_18 (by rw [c15]; decide +kernel) (by rw [c15]; decide +kernel) (by rw [c15]; decide +kernel) (by decide) ?_
    refine go_aload_n hC dX4_about_57 rfl 0 rfl ?_
    obtain ⟨h16, h⟩ := os_1 h
    refine go_getV 1 hC h16 rfl rfl (C := RX3) (T := TX3) (N := 16) rfl inlX3 (by decide) m_265 (Or.inl rfl) dX4_about_58 ?_
    cases h
  have h := os_f h c15
  by_cases c17 : v2 = (2 : Int32)
  · have h := os_t h c17
    refine go_tabIn (a := v2) (off := 44) (t := 62) hC dX4_about_18 (by rw [c17]; decide +kernel) (by rw [c17]; decide +kernel) (by rw [c17]; decide +kernel) (by decide) ?_
    refine go_aload_n hC dX4_about_62 rfl 0 rfl ?_
    obtain ⟨h18, h⟩ := os_1 h
    refine go_getV 3 hC h18 rfl rfl (C := RX3) (T := TX3) (N := 16) rfl inlX3 (by decide) m_418 (Or.inl rfl) dX4_about_63 ?_
    cases h
  have h := os_f h c17
  by_cases c19 : v2 = (3 : Int32)
  · have h := os_t h c19
    refine go_tabIn (a := v2) (off := 49) (t := 67) hC dX4_about_18 (by rw [c19]; decide +kernel) (by rw [c19]; decide +kernel) (by rw [c19]; decide +kernel) (by decide) ?_
    refine go_aload_n hC dX4_about_67 rfl 0 rfl ?_
    obtain ⟨h20, h⟩ := os_1 h
    refine go_getV 12 hC h20 rfl rfl (C := RX3) (T := TX3) (N := 16) rfl inlX3 (by decide) m_423 (Or.inl rfl) dX4_about_68 ?_
    obtain ⟨r21, M22, h23, h⟩ := os_c h
    refine go_callS (bytes := cJ6_bitCount_0f7a4) (maxL := 1) (ret := (some .int)) (n := 1) (As := [.int (mV M9 r8 12)]) (st := []) hE (c_J6_bitCount_0f7a4 K.2.1 h23) (by unfold okY; decide +kernel) rfl m_328 m_466 m_326 m_327 rfl (by simp [Value.category]) (by decide) (by decide) dX4_about_71 ?_
    refine go_eq (pc' := 74) (st' := [.int r21]) (M' := M22) (lv' := [(3, .ref r8), (0, .ref v0), (1, .int v1), (2, .int v2)]) ?_ rfl rfl rfl rfl
    cases h
  have h := os_f h c19
  by_cases c25 : v2 = (4 : Int32)
  · have h := os_t h c25
    refine go_tabIn (a := v2) (off := 57) (t := 75) hC dX4_about_18 (by rw [c25]; decide +kernel) (by rw [c25]; decide +kernel) (by rw [c25]; decide +kernel) (by decide) ?_
    refine go_aload_n hC dX4_about_75 rfl 0 rfl ?_
    obtain ⟨h26, h⟩ := os_1 h
    refine go_getV 11 hC h26 rfl rfl (C := RX3) (T := TX3) (N := 16) rfl inlX3 (by decide) m_526 (Or.inl rfl) dX4_about_76 ?_
    obtain ⟨r27, M28, h29, h⟩ := os_c h
    refine go_callS (bytes := cJ6_bitCount_0f7a4) (maxL := 1) (ret := (some .int)) (n := 1) (As := [.int (mV M9 r8 11)]) (st := []) hE (c_J6_bitCount_0f7a4 K.2.1 h29) (by unfold okY; decide +kernel) rfl m_328 m_466 m_326 m_327 rfl (by simp [Value.category]) (by decide) (by decide) dX4_about_79 ?_
    refine go_eq (pc' := 82) (st' := [.int r27]) (M' := M28) (lv' := [(3, .ref r8), (0, .ref v0), (1, .int v1), (2, .int v2)]) ?_ rfl rfl rfl rfl
    cases h
  have h := os_f h c25
  refine go_tabOut (a := v2) (t := 83) hC dX4_about_18 (by have z0 := lv_neT c13 (a := 0) (by decide +kernel); have z1 := lv_neT c15 (a := 1) (by decide +kernel); have z2 := lv_neT c17 (a := 2) (by decide +kernel); have z3 := lv_neT c19 (a := 3) (by decide +kernel); have z4 := lv_neT c25 (a := 4) (by decide +kernel); omega) (by decide) ?_
  obtain ⟨h31, h⟩ := os_1 h
  cases h
  exact go_throw1 hX m_118 m_119 (fun s H h => h.2.2.2.2.2.2.2.2.2.2.2.1) h31 (by decide) (by decide) (by simp [Value.category]) dX4_about_83 dX4_about_86 dX4_about_87 dX4_about_89 dX4_about_92
theorem cX_X4_about (l : Launch) (hl : l.stackTraces = false) {x9 : Cx} {k9 : Nat} {M M9 : Mm} {c9 : Nat} {v0 : Nat} {v1 : Int32} {v2 : Int32} (h : fX4_about x9 k9 v0 v1 v2 M = some (.inl c9, M9)) : FnX l x9 yX4_about cX4_about 4 (some .int) 8 131 [.ref v0, .int v1, .int v2] M c9 M9 :=
  FnX.of hl (by decide +kernel) (Nat.le_of_ble_eq_true rfl) rfl (fun K _ hX => uX4_about_0 hX _ _ _ _ h)
/-! X4_vector -/
def fX4_vector (x9 : Cx) (k9 : Nat) (v0 : Nat) (v1 : Int32) (v2 : Int32) (M : Mm) : Option ((Nat ⊕ Int32) × Mm) :=
  if mK M v0 = 5 then obT (fX4_needSite x9 k9 v0 v1 M) (fun r1 M2 => if mK M2 v0 = 5 then obT (fX4_needSite x9 k9 v0 v2 M2) (fun r5 M6 => if mK M6 v0 = 5 then ob1 (mP M6 v0 0) (fun b10 => if (mK M6 b10 = 10 ∨ mK M6 b10 = 11) ∧ ¬ (v1 < 0 ∨ mN M6 b10 ≤ (v1).toNatClampNeg) then ob1 (mP M6 b10 (v1).toNatClampNeg) (fun b14 => if mK M6 b14 = 3 then ob1 (mP M6 b14 1) (fun b16 => if mK M6 b16 = 8 ∧ ¬ (v2 < 0 ∨ mN M6 b16 ≤ (v2).toNatClampNeg) then some (.inr (mV M6 b16 (v2).toNatClampNeg), M6) else none) else none) else none) else none) else none) else none
set_option maxRecDepth 100000 in
set_option maxHeartbeats 4000000 in
theorem tX4_vector_0 {x9 : Cx} {K : Ct} {k9 : Nat} {M0 M9 : Mm} {r9 : Int32} (hE : Ce x9 K RX4 cX4_vector 3 (some .int) 8 131 "vector" M0) (v0 : Nat) (v1 : Int32) (v2 : Int32) (M : Mm) (h : fX4_vector x9 k9 v0 v1 v2 M = some (.inr r9, M9)) : Go x9 K 3 (Qf x9 K M0 (some (.int r9)) M9) 0 [(0, .ref v0), (1, .int v1), (2, .int v2)] [] M := by
  have hC := hE.1
  have hnm := hE.2.2.2.2.2.2.2.1
  unfold fX4_vector at h
  refine go_aload_n hC dX4_vector_0 rfl 0 rfl ?_
  refine go_iload_n hC dX4_vector_1 rfl 1 rfl ?_
  obtain ⟨h4, h⟩ := os_1 h
  obtain ⟨r1, M2, h3, h⟩ := os_TR h
  refine go_callV (bytes := cX4_needSite) (maxL := 2) (ret := none) (n := 1) (As := [.int v1]) (st := []) hE (c_X4_needSite K.2.1 h3) (by unfold okY; decide +kernel) rfl h4 rfl (C := RX4) (T := TX4) (N := 7) rfl m_150 m_147 m_148 m_149 m_2 rfl (by simp [Value.category]) (by decide) (by decide) dX4_vector_2 ?_
  refine go_eq (pc' := 5) (st' := []) (M' := M2) (lv' := [(0, .ref v0), (1, .int v1), (2, .int v2)]) ?_ rfl rfl rfl rfl
  refine go_aload_n hC dX4_vector_5 rfl 0 rfl ?_
  refine go_iload_n hC dX4_vector_6 rfl 2 rfl ?_
  obtain ⟨h8, h⟩ := os_1 h
  obtain ⟨r5, M6, h7, h⟩ := os_TR h
  refine go_callV (bytes := cX4_needSite) (maxL := 2) (ret := none) (n := 1) (As := [.int v2]) (st := []) hE (c_X4_needSite K.2.1 h7) (by unfold okY; decide +kernel) rfl h8 rfl (C := RX4) (T := TX4) (N := 7) rfl m_150 m_147 m_148 m_149 m_2 rfl (by simp [Value.category]) (by decide) (by decide) dX4_vector_7 ?_
  refine go_eq (pc' := 10) (st' := []) (M' := M6) (lv' := [(0, .ref v0), (1, .int v1), (2, .int v2)]) ?_ rfl rfl rfl rfl
  refine go_aload_n hC dX4_vector_10 rfl 0 rfl ?_
  obtain ⟨h9, h⟩ := os_1 h
  obtain ⟨b10, h11, h⟩ := os_b h
  refine go_getR 0 hC h9 rfl rfl h11 (C := RX4) (T := TX4) (N := 7) rfl inlX4 (by decide) m_14 (Or.inl rfl) dX4_vector_11 ?_
  refine go_iload_n hC dX4_vector_14 rfl 1 rfl ?_
  obtain ⟨h12, h⟩ := os_1 h
  obtain ⟨b14, h13, h⟩ := os_b h
  refine go_aald hC h12.1 h12.2 h13 dX4_vector_15 ?_
  obtain ⟨h15, h⟩ := os_1 h
  obtain ⟨b16, h17, h⟩ := os_b h
  refine go_getR 1 hC h15 rfl rfl h17 (C := RX2) (T := TX2) (N := 5) rfl inlX2 (by decide) m_146 (Or.inl rfl) dX4_vector_16 ?_
  refine go_iload_n hC dX4_vector_19 rfl 2 rfl ?_
  obtain ⟨h18, h⟩ := os_1 h
  refine go_iald hC h18.1 h18.2 dX4_vector_20 ?_
  cases h
  exact go_iret hE dX4_vector_21
theorem c_X4_vector (l : Launch) {x9 : Cx} {k9 : Nat} {M M9 : Mm} {r9 : Int32} {v0 : Nat} {v1 : Int32} {v2 : Int32} (h : fX4_vector x9 k9 v0 v1 v2 M = some (.inr r9, M9)) : Fn l x9 yX4_vector cX4_vector 3 (some .int) 8 131 [.ref v0, .int v1, .int v2] M (some (.int r9)) M9 :=
  Fn.of (by decide +kernel) (Nat.le_of_ble_eq_true rfl) rfl (fun K _ hE => tX4_vector_0 hE _ _ _ _ h)
set_option maxRecDepth 100000 in
set_option maxHeartbeats 4000000 in
theorem uX4_vector_0 {x9 : Cx} {K : Ct} {k9 : Nat} {M0 M9 : Mm} {c9 : Nat} (hX : CeX x9 K RX4 cX4_vector 3 (some .int) 8 131 "vector" M0) (v0 : Nat) (v1 : Int32) (v2 : Int32) (M : Mm) (h : fX4_vector x9 k9 v0 v1 v2 M = some (.inl c9, M9)) : Go x9 K 3 (QX x9 K M0 c9 M9) 0 [(0, .ref v0), (1, .int v1), (2, .int v2)] [] M := by
  have hE := hX.1
  have hC := hE.1
  unfold fX4_vector at h
  refine go_aload_n hC dX4_vector_0 rfl 0 rfl ?_
  refine go_iload_n hC dX4_vector_1 rfl 1 rfl ?_
  obtain ⟨h4, h⟩ := os_1 h
  rcases os_TX h with h3 | ⟨r1, M2, h3, h⟩
  · exact go_callVX (bytes := cX4_needSite) (maxL := 2) (ret := none) (n := 1) (As := [.int v1]) (st := []) hX (cX_X4_needSite K.2.1 hX.2.2 h3) (by unfold okY; decide +kernel) rfl h4 rfl (C := RX4) (T := TX4) (N := 7) rfl m_150 m_147 m_148 m_149 m_2 rfl (by simp [Value.category]) (by decide) (by decide) dX4_vector_2
  refine go_callV (bytes := cX4_needSite) (maxL := 2) (ret := none) (n := 1) (As := [.int v1]) (st := []) hE (c_X4_needSite K.2.1 h3) (by unfold okY; decide +kernel) rfl h4 rfl (C := RX4) (T := TX4) (N := 7) rfl m_150 m_147 m_148 m_149 m_2 rfl (by simp [Value.category]) (by decide) (by decide) dX4_vector_2 ?_
  refine go_eq (pc' := 5) (st' := []) (M' := M2) (lv' := [(0, .ref v0), (1, .int v1), (2, .int v2)]) ?_ rfl rfl rfl rfl
  refine go_aload_n hC dX4_vector_5 rfl 0 rfl ?_
  refine go_iload_n hC dX4_vector_6 rfl 2 rfl ?_
  obtain ⟨h8, h⟩ := os_1 h
  rcases os_TX h with h7 | ⟨r5, M6, h7, h⟩
  · exact go_callVX (bytes := cX4_needSite) (maxL := 2) (ret := none) (n := 1) (As := [.int v2]) (st := []) hX (cX_X4_needSite K.2.1 hX.2.2 h7) (by unfold okY; decide +kernel) rfl h8 rfl (C := RX4) (T := TX4) (N := 7) rfl m_150 m_147 m_148 m_149 m_2 rfl (by simp [Value.category]) (by decide) (by decide) dX4_vector_7
  refine go_callV (bytes := cX4_needSite) (maxL := 2) (ret := none) (n := 1) (As := [.int v2]) (st := []) hE (c_X4_needSite K.2.1 h7) (by unfold okY; decide +kernel) rfl h8 rfl (C := RX4) (T := TX4) (N := 7) rfl m_150 m_147 m_148 m_149 m_2 rfl (by simp [Value.category]) (by decide) (by decide) dX4_vector_7 ?_
  refine go_eq (pc' := 10) (st' := []) (M' := M6) (lv' := [(0, .ref v0), (1, .int v1), (2, .int v2)]) ?_ rfl rfl rfl rfl
  refine go_aload_n hC dX4_vector_10 rfl 0 rfl ?_
  obtain ⟨h9, h⟩ := os_1 h
  obtain ⟨b10, h11, h⟩ := os_b h
  refine go_getR 0 hC h9 rfl rfl h11 (C := RX4) (T := TX4) (N := 7) rfl inlX4 (by decide) m_14 (Or.inl rfl) dX4_vector_11 ?_
  refine go_iload_n hC dX4_vector_14 rfl 1 rfl ?_
  obtain ⟨h12, h⟩ := os_1 h
  obtain ⟨b14, h13, h⟩ := os_b h
  refine go_aald hC h12.1 h12.2 h13 dX4_vector_15 ?_
  obtain ⟨h15, h⟩ := os_1 h
  obtain ⟨b16, h17, h⟩ := os_b h
  refine go_getR 1 hC h15 rfl rfl h17 (C := RX2) (T := TX2) (N := 5) rfl inlX2 (by decide) m_146 (Or.inl rfl) dX4_vector_16 ?_
  refine go_iload_n hC dX4_vector_19 rfl 2 rfl ?_
  obtain ⟨h18, h⟩ := os_1 h
  refine go_iald hC h18.1 h18.2 dX4_vector_20 ?_
  cases h
theorem cX_X4_vector (l : Launch) (hl : l.stackTraces = false) {x9 : Cx} {k9 : Nat} {M M9 : Mm} {c9 : Nat} {v0 : Nat} {v1 : Int32} {v2 : Int32} (h : fX4_vector x9 k9 v0 v1 v2 M = some (.inl c9, M9)) : FnX l x9 yX4_vector cX4_vector 3 (some .int) 8 131 [.ref v0, .int v1, .int v2] M c9 M9 :=
  FnX.of hl (by decide +kernel) (Nat.le_of_ble_eq_true rfl) rfl (fun K _ hX => uX4_vector_0 hX _ _ _ _ h)
/-! X4_value -/
def fX4_value (x9 : Cx) (k9 : Nat) (v0 : Nat) (v1 : Int32) (v2 : Int32) (M : Mm) : Option ((Nat ⊕ Int32) × Mm) :=
  if mK M v0 = 5 then obT (fX4_needSite x9 k9 v0 v1 M) (fun r1 M2 => obT (fX4_needObject x9 k9 v2 M2) (fun r5 M6 => if mK M6 v0 = 5 then ob1 (mP M6 v0 0) (fun b10 => if (mK M6 b10 = 10 ∨ mK M6 b10 = 11) ∧ ¬ (v1 < 0 ∨ mN M6 b10 ≤ (v1).toNatClampNeg) then ob1 (mP M6 b10 (v1).toNatClampNeg) (fun b14 => if mK M6 v0 = 5 then ob1 (mP M6 v0 0) (fun b16 => if (mK M6 b16 = 10 ∨ mK M6 b16 = 11) ∧ ¬ (v1 < 0 ∨ mN M6 b16 ≤ (v1).toNatClampNeg) then ob1 (mP M6 b16 (v1).toNatClampNeg) (fun b20 => if mK M6 b20 = 3 then ob1 (mP M6 b20 1) (fun b22 => if mK M6 v0 = 5 then ob2 (fX4_latestSeen x9 k9 v0 b14 b22 v2 M6) (fun r24 M25 => some (.inr r24, M25)) else none) else none) else none) else none) else none) else none)) else none
set_option maxRecDepth 100000 in
set_option maxHeartbeats 4000000 in
theorem tX4_value_0 {x9 : Cx} {K : Ct} {k9 : Nat} {M0 M9 : Mm} {r9 : Int32} (hE : Ce x9 K RX4 cX4_value 3 (some .int) 8 131 "value" M0) (v0 : Nat) (v1 : Int32) (v2 : Int32) (M : Mm) (h : fX4_value x9 k9 v0 v1 v2 M = some (.inr r9, M9)) : Go x9 K 3 (Qf x9 K M0 (some (.int r9)) M9) 0 [(0, .ref v0), (1, .int v1), (2, .int v2)] [] M := by
  have hC := hE.1
  have hnm := hE.2.2.2.2.2.2.2.1
  unfold fX4_value at h
  refine go_aload_n hC dX4_value_0 rfl 0 rfl ?_
  refine go_iload_n hC dX4_value_1 rfl 1 rfl ?_
  obtain ⟨h4, h⟩ := os_1 h
  obtain ⟨r1, M2, h3, h⟩ := os_TR h
  refine go_callV (bytes := cX4_needSite) (maxL := 2) (ret := none) (n := 1) (As := [.int v1]) (st := []) hE (c_X4_needSite K.2.1 h3) (by unfold okY; decide +kernel) rfl h4 rfl (C := RX4) (T := TX4) (N := 7) rfl m_150 m_147 m_148 m_149 m_2 rfl (by simp [Value.category]) (by decide) (by decide) dX4_value_2 ?_
  refine go_eq (pc' := 5) (st' := []) (M' := M2) (lv' := [(0, .ref v0), (1, .int v1), (2, .int v2)]) ?_ rfl rfl rfl rfl
  refine go_iload_n hC dX4_value_5 rfl 2 rfl ?_
  obtain ⟨r5, M6, h7, h⟩ := os_TR h
  refine go_callS (bytes := cX4_needObject) (maxL := 1) (ret := none) (n := 1) (As := [.int v2]) (st := []) hE (c_X4_needObject K.2.1 h7) (by unfold okY; decide +kernel) rfl m_273 m_271 m_272 m_2 rfl (by simp [Value.category]) (by decide) (by decide) dX4_value_6 ?_
  refine go_eq (pc' := 9) (st' := []) (M' := M6) (lv' := [(0, .ref v0), (1, .int v1), (2, .int v2)]) ?_ rfl rfl rfl rfl
  refine go_aload_n hC dX4_value_9 rfl 0 rfl ?_
  refine go_aload_n hC dX4_value_10 rfl 0 rfl ?_
  obtain ⟨h9, h⟩ := os_1 h
  obtain ⟨b10, h11, h⟩ := os_b h
  refine go_getR 0 hC h9 rfl rfl h11 (C := RX4) (T := TX4) (N := 7) rfl inlX4 (by decide) m_14 (Or.inl rfl) dX4_value_11 ?_
  refine go_iload_n hC dX4_value_14 rfl 1 rfl ?_
  obtain ⟨h12, h⟩ := os_1 h
  obtain ⟨b14, h13, h⟩ := os_b h
  refine go_aald hC h12.1 h12.2 h13 dX4_value_15 ?_
  refine go_aload_n hC dX4_value_16 rfl 0 rfl ?_
  obtain ⟨h15, h⟩ := os_1 h
  obtain ⟨b16, h17, h⟩ := os_b h
  refine go_getR 0 hC h15 rfl rfl h17 (C := RX4) (T := TX4) (N := 7) rfl inlX4 (by decide) m_14 (Or.inl rfl) dX4_value_17 ?_
  refine go_iload_n hC dX4_value_20 rfl 1 rfl ?_
  obtain ⟨h18, h⟩ := os_1 h
  obtain ⟨b20, h19, h⟩ := os_b h
  refine go_aald hC h18.1 h18.2 h19 dX4_value_21 ?_
  obtain ⟨h21, h⟩ := os_1 h
  obtain ⟨b22, h23, h⟩ := os_b h
  refine go_getR 1 hC h21 rfl rfl h23 (C := RX2) (T := TX2) (N := 5) rfl inlX2 (by decide) m_146 (Or.inl rfl) dX4_value_22 ?_
  refine go_iload_n hC dX4_value_25 rfl 2 rfl ?_
  obtain ⟨h27, h⟩ := os_1 h
  obtain ⟨r24, M25, h26, h⟩ := os_c h
  refine go_callV (bytes := cX4_latestSeen) (maxL := 6) (ret := (some .int)) (n := 3) (As := [.ref b14, .ref b22, .int v2]) (st := []) hE (c_X4_latestSeen K.2.1 h26) (by unfold okY; decide +kernel) rfl h27 rfl (C := RX4) (T := TX4) (N := 7) rfl m_287 m_284 m_285 m_286 m_2 rfl (by simp [Value.category]) (by decide) (by decide) dX4_value_26 ?_
  refine go_eq (pc' := 29) (st' := [.int r24]) (M' := M25) (lv' := [(0, .ref v0), (1, .int v1), (2, .int v2)]) ?_ rfl rfl rfl rfl
  cases h
  exact go_iret hE dX4_value_29
theorem c_X4_value (l : Launch) {x9 : Cx} {k9 : Nat} {M M9 : Mm} {r9 : Int32} {v0 : Nat} {v1 : Int32} {v2 : Int32} (h : fX4_value x9 k9 v0 v1 v2 M = some (.inr r9, M9)) : Fn l x9 yX4_value cX4_value 3 (some .int) 8 131 [.ref v0, .int v1, .int v2] M (some (.int r9)) M9 :=
  Fn.of (by decide +kernel) (Nat.le_of_ble_eq_true rfl) rfl (fun K _ hE => tX4_value_0 hE _ _ _ _ h)
set_option maxRecDepth 100000 in
set_option maxHeartbeats 4000000 in
theorem uX4_value_0 {x9 : Cx} {K : Ct} {k9 : Nat} {M0 M9 : Mm} {c9 : Nat} (hX : CeX x9 K RX4 cX4_value 3 (some .int) 8 131 "value" M0) (v0 : Nat) (v1 : Int32) (v2 : Int32) (M : Mm) (h : fX4_value x9 k9 v0 v1 v2 M = some (.inl c9, M9)) : Go x9 K 3 (QX x9 K M0 c9 M9) 0 [(0, .ref v0), (1, .int v1), (2, .int v2)] [] M := by
  have hE := hX.1
  have hC := hE.1
  unfold fX4_value at h
  refine go_aload_n hC dX4_value_0 rfl 0 rfl ?_
  refine go_iload_n hC dX4_value_1 rfl 1 rfl ?_
  obtain ⟨h4, h⟩ := os_1 h
  rcases os_TX h with h3 | ⟨r1, M2, h3, h⟩
  · exact go_callVX (bytes := cX4_needSite) (maxL := 2) (ret := none) (n := 1) (As := [.int v1]) (st := []) hX (cX_X4_needSite K.2.1 hX.2.2 h3) (by unfold okY; decide +kernel) rfl h4 rfl (C := RX4) (T := TX4) (N := 7) rfl m_150 m_147 m_148 m_149 m_2 rfl (by simp [Value.category]) (by decide) (by decide) dX4_value_2
  refine go_callV (bytes := cX4_needSite) (maxL := 2) (ret := none) (n := 1) (As := [.int v1]) (st := []) hE (c_X4_needSite K.2.1 h3) (by unfold okY; decide +kernel) rfl h4 rfl (C := RX4) (T := TX4) (N := 7) rfl m_150 m_147 m_148 m_149 m_2 rfl (by simp [Value.category]) (by decide) (by decide) dX4_value_2 ?_
  refine go_eq (pc' := 5) (st' := []) (M' := M2) (lv' := [(0, .ref v0), (1, .int v1), (2, .int v2)]) ?_ rfl rfl rfl rfl
  refine go_iload_n hC dX4_value_5 rfl 2 rfl ?_
  rcases os_TX h with h7 | ⟨r5, M6, h7, h⟩
  · exact go_callSX (bytes := cX4_needObject) (maxL := 1) (ret := none) (n := 1) (As := [.int v2]) (st := []) hX (cX_X4_needObject K.2.1 hX.2.2 h7) (by unfold okY; decide +kernel) rfl m_273 m_271 m_272 m_2 rfl (by simp [Value.category]) (by decide) (by decide) dX4_value_6
  refine go_callS (bytes := cX4_needObject) (maxL := 1) (ret := none) (n := 1) (As := [.int v2]) (st := []) hE (c_X4_needObject K.2.1 h7) (by unfold okY; decide +kernel) rfl m_273 m_271 m_272 m_2 rfl (by simp [Value.category]) (by decide) (by decide) dX4_value_6 ?_
  refine go_eq (pc' := 9) (st' := []) (M' := M6) (lv' := [(0, .ref v0), (1, .int v1), (2, .int v2)]) ?_ rfl rfl rfl rfl
  refine go_aload_n hC dX4_value_9 rfl 0 rfl ?_
  refine go_aload_n hC dX4_value_10 rfl 0 rfl ?_
  obtain ⟨h9, h⟩ := os_1 h
  obtain ⟨b10, h11, h⟩ := os_b h
  refine go_getR 0 hC h9 rfl rfl h11 (C := RX4) (T := TX4) (N := 7) rfl inlX4 (by decide) m_14 (Or.inl rfl) dX4_value_11 ?_
  refine go_iload_n hC dX4_value_14 rfl 1 rfl ?_
  obtain ⟨h12, h⟩ := os_1 h
  obtain ⟨b14, h13, h⟩ := os_b h
  refine go_aald hC h12.1 h12.2 h13 dX4_value_15 ?_
  refine go_aload_n hC dX4_value_16 rfl 0 rfl ?_
  obtain ⟨h15, h⟩ := os_1 h
  obtain ⟨b16, h17, h⟩ := os_b h
  refine go_getR 0 hC h15 rfl rfl h17 (C := RX4) (T := TX4) (N := 7) rfl inlX4 (by decide) m_14 (Or.inl rfl) dX4_value_17 ?_
  refine go_iload_n hC dX4_value_20 rfl 1 rfl ?_
  obtain ⟨h18, h⟩ := os_1 h
  obtain ⟨b20, h19, h⟩ := os_b h
  refine go_aald hC h18.1 h18.2 h19 dX4_value_21 ?_
  obtain ⟨h21, h⟩ := os_1 h
  obtain ⟨b22, h23, h⟩ := os_b h
  refine go_getR 1 hC h21 rfl rfl h23 (C := RX2) (T := TX2) (N := 5) rfl inlX2 (by decide) m_146 (Or.inl rfl) dX4_value_22 ?_
  refine go_iload_n hC dX4_value_25 rfl 2 rfl ?_
  obtain ⟨h27, h⟩ := os_1 h
  obtain ⟨r24, M25, h26, h⟩ := os_c h
  refine go_callV (bytes := cX4_latestSeen) (maxL := 6) (ret := (some .int)) (n := 3) (As := [.ref b14, .ref b22, .int v2]) (st := []) hE (c_X4_latestSeen K.2.1 h26) (by unfold okY; decide +kernel) rfl h27 rfl (C := RX4) (T := TX4) (N := 7) rfl m_287 m_284 m_285 m_286 m_2 rfl (by simp [Value.category]) (by decide) (by decide) dX4_value_26 ?_
  refine go_eq (pc' := 29) (st' := [.int r24]) (M' := M25) (lv' := [(0, .ref v0), (1, .int v1), (2, .int v2)]) ?_ rfl rfl rfl rfl
  cases h
theorem cX_X4_value (l : Launch) (hl : l.stackTraces = false) {x9 : Cx} {k9 : Nat} {M M9 : Mm} {c9 : Nat} {v0 : Nat} {v1 : Int32} {v2 : Int32} (h : fX4_value x9 k9 v0 v1 v2 M = some (.inl c9, M9)) : FnX l x9 yX4_value cX4_value 3 (some .int) 8 131 [.ref v0, .int v1, .int v2] M c9 M9 :=
  FnX.of hl (by decide +kernel) (Nat.le_of_ble_eq_true rfl) rfl (fun K _ hX => uX4_value_0 hX _ _ _ _ h)
/-! X4_locked -/
def fX4_locked (x9 : Cx) (k9 : Nat) (v0 : Nat) (v1 : Int32) (v2 : Int32) (M : Mm) : Option ((Nat ⊕ Int32) × Mm) :=
  if mK M v0 = 5 then obT (fX4_needSite x9 k9 v0 v1 M) (fun r1 M2 => obT (fX4_needObject x9 k9 v2 M2) (fun r5 M6 => if mK M6 v0 = 5 then ob1 (mP M6 v0 0) (fun b10 => if (mK M6 b10 = 10 ∨ mK M6 b10 = 11) ∧ ¬ (v1 < 0 ∨ mN M6 b10 ≤ (v1).toNatClampNeg) then ob1 (mP M6 b10 (v1).toNatClampNeg) (fun b14 => if mK M6 b14 = 3 then ob1 (mP M6 b14 2) (fun b16 => if mK M6 b16 = 8 ∧ ¬ (v2 < 0 ∨ mN M6 b16 ≤ (v2).toNatClampNeg) then some (.inr (mV M6 b16 (v2).toNatClampNeg), M6) else none) else none) else none) else none)) else none
set_option maxRecDepth 100000 in
set_option maxHeartbeats 4000000 in
theorem tX4_locked_0 {x9 : Cx} {K : Ct} {k9 : Nat} {M0 M9 : Mm} {r9 : Int32} (hE : Ce x9 K RX4 cX4_locked 3 (some .int) 8 131 "locked" M0) (v0 : Nat) (v1 : Int32) (v2 : Int32) (M : Mm) (h : fX4_locked x9 k9 v0 v1 v2 M = some (.inr r9, M9)) : Go x9 K 3 (Qf x9 K M0 (some (.int r9)) M9) 0 [(0, .ref v0), (1, .int v1), (2, .int v2)] [] M := by
  have hC := hE.1
  have hnm := hE.2.2.2.2.2.2.2.1
  unfold fX4_locked at h
  refine go_aload_n hC dX4_locked_0 rfl 0 rfl ?_
  refine go_iload_n hC dX4_locked_1 rfl 1 rfl ?_
  obtain ⟨h4, h⟩ := os_1 h
  obtain ⟨r1, M2, h3, h⟩ := os_TR h
  refine go_callV (bytes := cX4_needSite) (maxL := 2) (ret := none) (n := 1) (As := [.int v1]) (st := []) hE (c_X4_needSite K.2.1 h3) (by unfold okY; decide +kernel) rfl h4 rfl (C := RX4) (T := TX4) (N := 7) rfl m_150 m_147 m_148 m_149 m_2 rfl (by simp [Value.category]) (by decide) (by decide) dX4_locked_2 ?_
  refine go_eq (pc' := 5) (st' := []) (M' := M2) (lv' := [(0, .ref v0), (1, .int v1), (2, .int v2)]) ?_ rfl rfl rfl rfl
  refine go_iload_n hC dX4_locked_5 rfl 2 rfl ?_
  obtain ⟨r5, M6, h7, h⟩ := os_TR h
  refine go_callS (bytes := cX4_needObject) (maxL := 1) (ret := none) (n := 1) (As := [.int v2]) (st := []) hE (c_X4_needObject K.2.1 h7) (by unfold okY; decide +kernel) rfl m_273 m_271 m_272 m_2 rfl (by simp [Value.category]) (by decide) (by decide) dX4_locked_6 ?_
  refine go_eq (pc' := 9) (st' := []) (M' := M6) (lv' := [(0, .ref v0), (1, .int v1), (2, .int v2)]) ?_ rfl rfl rfl rfl
  refine go_aload_n hC dX4_locked_9 rfl 0 rfl ?_
  obtain ⟨h9, h⟩ := os_1 h
  obtain ⟨b10, h11, h⟩ := os_b h
  refine go_getR 0 hC h9 rfl rfl h11 (C := RX4) (T := TX4) (N := 7) rfl inlX4 (by decide) m_14 (Or.inl rfl) dX4_locked_10 ?_
  refine go_iload_n hC dX4_locked_13 rfl 1 rfl ?_
  obtain ⟨h12, h⟩ := os_1 h
  obtain ⟨b14, h13, h⟩ := os_b h
  refine go_aald hC h12.1 h12.2 h13 dX4_locked_14 ?_
  obtain ⟨h15, h⟩ := os_1 h
  obtain ⟨b16, h17, h⟩ := os_b h
  refine go_getR 2 hC h15 rfl rfl h17 (C := RX2) (T := TX2) (N := 5) rfl inlX2 (by decide) m_412 (Or.inl rfl) dX4_locked_15 ?_
  refine go_iload_n hC dX4_locked_18 rfl 2 rfl ?_
  obtain ⟨h18, h⟩ := os_1 h
  refine go_iald hC h18.1 h18.2 dX4_locked_19 ?_
  cases h
  exact go_iret hE dX4_locked_20
theorem c_X4_locked (l : Launch) {x9 : Cx} {k9 : Nat} {M M9 : Mm} {r9 : Int32} {v0 : Nat} {v1 : Int32} {v2 : Int32} (h : fX4_locked x9 k9 v0 v1 v2 M = some (.inr r9, M9)) : Fn l x9 yX4_locked cX4_locked 3 (some .int) 8 131 [.ref v0, .int v1, .int v2] M (some (.int r9)) M9 :=
  Fn.of (by decide +kernel) (Nat.le_of_ble_eq_true rfl) rfl (fun K _ hE => tX4_locked_0 hE _ _ _ _ h)
set_option maxRecDepth 100000 in
set_option maxHeartbeats 4000000 in
theorem uX4_locked_0 {x9 : Cx} {K : Ct} {k9 : Nat} {M0 M9 : Mm} {c9 : Nat} (hX : CeX x9 K RX4 cX4_locked 3 (some .int) 8 131 "locked" M0) (v0 : Nat) (v1 : Int32) (v2 : Int32) (M : Mm) (h : fX4_locked x9 k9 v0 v1 v2 M = some (.inl c9, M9)) : Go x9 K 3 (QX x9 K M0 c9 M9) 0 [(0, .ref v0), (1, .int v1), (2, .int v2)] [] M := by
  have hE := hX.1
  have hC := hE.1
  unfold fX4_locked at h
  refine go_aload_n hC dX4_locked_0 rfl 0 rfl ?_
  refine go_iload_n hC dX4_locked_1 rfl 1 rfl ?_
  obtain ⟨h4, h⟩ := os_1 h
  rcases os_TX h with h3 | ⟨r1, M2, h3, h⟩
  · exact go_callVX (bytes := cX4_needSite) (maxL := 2) (ret := none) (n := 1) (As := [.int v1]) (st := []) hX (cX_X4_needSite K.2.1 hX.2.2 h3) (by unfold okY; decide +kernel) rfl h4 rfl (C := RX4) (T := TX4) (N := 7) rfl m_150 m_147 m_148 m_149 m_2 rfl (by simp [Value.category]) (by decide) (by decide) dX4_locked_2
  refine go_callV (bytes := cX4_needSite) (maxL := 2) (ret := none) (n := 1) (As := [.int v1]) (st := []) hE (c_X4_needSite K.2.1 h3) (by unfold okY; decide +kernel) rfl h4 rfl (C := RX4) (T := TX4) (N := 7) rfl m_150 m_147 m_148 m_149 m_2 rfl (by simp [Value.category]) (by decide) (by decide) dX4_locked_2 ?_
  refine go_eq (pc' := 5) (st' := []) (M' := M2) (lv' := [(0, .ref v0), (1, .int v1), (2, .int v2)]) ?_ rfl rfl rfl rfl
  refine go_iload_n hC dX4_locked_5 rfl 2 rfl ?_
  rcases os_TX h with h7 | ⟨r5, M6, h7, h⟩
  · exact go_callSX (bytes := cX4_needObject) (maxL := 1) (ret := none) (n := 1) (As := [.int v2]) (st := []) hX (cX_X4_needObject K.2.1 hX.2.2 h7) (by unfold okY; decide +kernel) rfl m_273 m_271 m_272 m_2 rfl (by simp [Value.category]) (by decide) (by decide) dX4_locked_6
  refine go_callS (bytes := cX4_needObject) (maxL := 1) (ret := none) (n := 1) (As := [.int v2]) (st := []) hE (c_X4_needObject K.2.1 h7) (by unfold okY; decide +kernel) rfl m_273 m_271 m_272 m_2 rfl (by simp [Value.category]) (by decide) (by decide) dX4_locked_6 ?_
  refine go_eq (pc' := 9) (st' := []) (M' := M6) (lv' := [(0, .ref v0), (1, .int v1), (2, .int v2)]) ?_ rfl rfl rfl rfl
  refine go_aload_n hC dX4_locked_9 rfl 0 rfl ?_
  obtain ⟨h9, h⟩ := os_1 h
  obtain ⟨b10, h11, h⟩ := os_b h
  refine go_getR 0 hC h9 rfl rfl h11 (C := RX4) (T := TX4) (N := 7) rfl inlX4 (by decide) m_14 (Or.inl rfl) dX4_locked_10 ?_
  refine go_iload_n hC dX4_locked_13 rfl 1 rfl ?_
  obtain ⟨h12, h⟩ := os_1 h
  obtain ⟨b14, h13, h⟩ := os_b h
  refine go_aald hC h12.1 h12.2 h13 dX4_locked_14 ?_
  obtain ⟨h15, h⟩ := os_1 h
  obtain ⟨b16, h17, h⟩ := os_b h
  refine go_getR 2 hC h15 rfl rfl h17 (C := RX2) (T := TX2) (N := 5) rfl inlX2 (by decide) m_412 (Or.inl rfl) dX4_locked_15 ?_
  refine go_iload_n hC dX4_locked_18 rfl 2 rfl ?_
  obtain ⟨h18, h⟩ := os_1 h
  refine go_iald hC h18.1 h18.2 dX4_locked_19 ?_
  cases h
theorem cX_X4_locked (l : Launch) (hl : l.stackTraces = false) {x9 : Cx} {k9 : Nat} {M M9 : Mm} {c9 : Nat} {v0 : Nat} {v1 : Int32} {v2 : Int32} (h : fX4_locked x9 k9 v0 v1 v2 M = some (.inl c9, M9)) : FnX l x9 yX4_locked cX4_locked 3 (some .int) 8 131 [.ref v0, .int v1, .int v2] M c9 M9 :=
  FnX.of hl (by decide +kernel) (Nat.le_of_ble_eq_true rfl) rfl (fun K _ hX => uX4_locked_0 hX _ _ _ _ h)
/-! X4_total -/
def fX4_total (x9 : Cx) (k9 : Nat) (v0 : Nat) (v1 : Int32) (M : Mm) : Option ((Nat ⊕ Int32) × Mm) :=
  if v1 = (0 : Int32) then if mK M v0 = 5 then some (.inr (mV M v0 5), M) else none else if v1 = (1 : Int32) then if mK M v0 = 5 then ob1 (mP M v0 2) (fun b5 => if mK M b5 = 7 then ob2 (fJx4a65c_size_8abf5 x9 k9 b5 M) (fun r7 M8 => some (.inr r7, M8)) else none) else none else if v1 = (2 : Int32) then if mK M v0 = 5 then some (.inr (mV M v0 6), M) else none else if v1 = (3 : Int32) then if mK M v0 = 5 then ob2 (fX4_keptTells x9 k9 v0 M) (fun r14 M15 => some (.inr r14, M15)) else none else if v1 = (4 : Int32) then if mK M v0 = 5 then ob2 (fX4_sitesUp x9 k9 v0 M) (fun r19 M20 => some (.inr r19, M20)) else none else if mX M + 1 ≤ xC x9 ∧ mS M + 6 ≤ xL x9 then some (.inl 1, M) else none
set_option maxRecDepth 100000 in
set_option maxHeartbeats 4000000 in
theorem tX4_total_0 {x9 : Cx} {K : Ct} {k9 : Nat} {M0 M9 : Mm} {r9 : Int32} (hE : Ce x9 K RX4 cX4_total 2 (some .int) 6 90 "total" M0) (v0 : Nat) (v1 : Int32) (M : Mm) (h : fX4_total x9 k9 v0 v1 M = some (.inr r9, M9)) : Go x9 K 2 (Qf x9 K M0 (some (.int r9)) M9) 0 [(0, .ref v0), (1, .int v1)] [] M := by
  have hC := hE.1
  have hnm := hE.2.2.2.2.2.2.2.1
  unfold fX4_total at h
  refine go_iload_n hC dX4_total_0 rfl 1 rfl ?_
  by_cases c1 : v1 = (0 : Int32)
  · have h := os_t h c1
    refine go_tabIn (a := v1) (off := 35) (t := 36) hC dX4_total_1 (by rw [c1]; decide +kernel) (by rw [c1]; decide +kernel) (by rw [c1]; decide +kernel) (by decide) ?_
    refine go_aload_n hC dX4_total_36 rfl 0 rfl ?_
    obtain ⟨h2, h⟩ := os_1 h
    refine go_getV 5 hC h2 rfl rfl (C := RX4) (T := TX4) (N := 7) rfl inlX4 (by decide) m_56 (Or.inl rfl) dX4_total_37 ?_
    cases h
    exact go_iret hE dX4_total_40
  have h := os_f h c1
  by_cases c3 : v1 = (1 : Int32)
  · have h := os_t h c3
    refine go_tabIn (a := v1) (off := 40) (t := 41) hC dX4_total_1 (by rw [c3]; decide +kernel) (by rw [c3]; decide +kernel) (by rw [c3]; decide +kernel) (by decide) ?_
    refine go_aload_n hC dX4_total_41 rfl 0 rfl ?_
    obtain ⟨h4, h⟩ := os_1 h
    obtain ⟨b5, h6, h⟩ := os_b h
    refine go_getR 2 hC h4 rfl rfl h6 (C := RX4) (T := TX4) (N := 7) rfl inlX4 (by decide) m_21 (Or.inl rfl) dX4_total_42 ?_
    obtain ⟨h10, h⟩ := os_1 h
    obtain ⟨r7, M8, h9, h⟩ := os_c h
    refine go_callV (bytes := cJx4a65c_size_8abf5) (maxL := 1) (ret := (some .int)) (n := 0) (As := []) (st := []) hE (c_Jx4a65c_size_8abf5 K.2.1 h9) (by unfold okY; decide +kernel) rfl h10 rfl (C := RJx4a65c) (T := TJx4a65c) (N := 3) rfl m_159 m_156 m_157 m_158 m_19 rfl (by simp [Value.category]) (by decide) (by decide) dX4_total_45 ?_
    refine go_eq (pc' := 48) (st' := [.int r7]) (M' := M8) (lv' := [(0, .ref v0), (1, .int v1)]) ?_ rfl rfl rfl rfl
    cases h
    exact go_iret hE dX4_total_48
  have h := os_f h c3
  by_cases c11 : v1 = (2 : Int32)
  · have h := os_t h c11
    refine go_tabIn (a := v1) (off := 48) (t := 49) hC dX4_total_1 (by rw [c11]; decide +kernel) (by rw [c11]; decide +kernel) (by rw [c11]; decide +kernel) (by decide) ?_
    refine go_aload_n hC dX4_total_49 rfl 0 rfl ?_
    obtain ⟨h12, h⟩ := os_1 h
    refine go_getV 6 hC h12 rfl rfl (C := RX4) (T := TX4) (N := 7) rfl inlX4 (by decide) m_57 (Or.inl rfl) dX4_total_50 ?_
    cases h
    exact go_iret hE dX4_total_53
  have h := os_f h c11
  by_cases c13 : v1 = (3 : Int32)
  · have h := os_t h c13
    refine go_tabIn (a := v1) (off := 53) (t := 54) hC dX4_total_1 (by rw [c13]; decide +kernel) (by rw [c13]; decide +kernel) (by rw [c13]; decide +kernel) (by decide) ?_
    refine go_aload_n hC dX4_total_54 rfl 0 rfl ?_
    obtain ⟨h17, h⟩ := os_1 h
    obtain ⟨r14, M15, h16, h⟩ := os_c h
    refine go_callV (bytes := cX4_keptTells) (maxL := 3) (ret := (some .int)) (n := 0) (As := []) (st := []) hE (c_X4_keptTells K.2.1 h16) (by unfold okY; decide +kernel) rfl h17 rfl (C := RX4) (T := TX4) (N := 7) rfl m_807 m_804 m_805 m_806 m_2 rfl (by simp [Value.category]) (by decide) (by decide) dX4_total_55 ?_
    refine go_eq (pc' := 58) (st' := [.int r14]) (M' := M15) (lv' := [(0, .ref v0), (1, .int v1)]) ?_ rfl rfl rfl rfl
    cases h
    exact go_iret hE dX4_total_58
  have h := os_f h c13
  by_cases c18 : v1 = (4 : Int32)
  · have h := os_t h c18
    refine go_tabIn (a := v1) (off := 58) (t := 59) hC dX4_total_1 (by rw [c18]; decide +kernel) (by rw [c18]; decide +kernel) (by rw [c18]; decide +kernel) (by decide) ?_
    refine go_aload_n hC dX4_total_59 rfl 0 rfl ?_
    obtain ⟨h22, h⟩ := os_1 h
    obtain ⟨r19, M20, h21, h⟩ := os_c h
    refine go_callV (bytes := cX4_sitesUp) (maxL := 3) (ret := (some .int)) (n := 0) (As := []) (st := []) hE (c_X4_sitesUp K.2.1 h21) (by unfold okY; decide +kernel) rfl h22 rfl (C := RX4) (T := TX4) (N := 7) rfl m_811 m_808 m_809 m_810 m_2 rfl (by simp [Value.category]) (by decide) (by decide) dX4_total_60 ?_
    refine go_eq (pc' := 63) (st' := [.int r19]) (M' := M20) (lv' := [(0, .ref v0), (1, .int v1)]) ?_ rfl rfl rfl rfl
    cases h
    exact go_iret hE dX4_total_63
  have h := os_f h c18
  refine go_tabOut (a := v1) (t := 64) hC dX4_total_1 (by have z0 := lv_neT c1 (a := 0) (by decide +kernel); have z1 := lv_neT c3 (a := 1) (by decide +kernel); have z2 := lv_neT c11 (a := 2) (by decide +kernel); have z3 := lv_neT c13 (a := 3) (by decide +kernel); have z4 := lv_neT c18 (a := 4) (by decide +kernel); omega) (by decide) ?_
  obtain ⟨h23, h⟩ := os_1 h
  cases h
theorem c_X4_total (l : Launch) {x9 : Cx} {k9 : Nat} {M M9 : Mm} {r9 : Int32} {v0 : Nat} {v1 : Int32} (h : fX4_total x9 k9 v0 v1 M = some (.inr r9, M9)) : Fn l x9 yX4_total cX4_total 2 (some .int) 6 90 [.ref v0, .int v1] M (some (.int r9)) M9 :=
  Fn.of (by decide +kernel) (Nat.le_of_ble_eq_true rfl) rfl (fun K _ hE => tX4_total_0 hE _ _ _ h)
set_option maxRecDepth 100000 in
set_option maxHeartbeats 4000000 in
theorem uX4_total_0 {x9 : Cx} {K : Ct} {k9 : Nat} {M0 M9 : Mm} {c9 : Nat} (hX : CeX x9 K RX4 cX4_total 2 (some .int) 6 90 "total" M0) (v0 : Nat) (v1 : Int32) (M : Mm) (h : fX4_total x9 k9 v0 v1 M = some (.inl c9, M9)) : Go x9 K 2 (QX x9 K M0 c9 M9) 0 [(0, .ref v0), (1, .int v1)] [] M := by
  have hE := hX.1
  have hC := hE.1
  unfold fX4_total at h
  refine go_iload_n hC dX4_total_0 rfl 1 rfl ?_
  by_cases c1 : v1 = (0 : Int32)
  · have h := os_t h c1
    refine go_tabIn (a := v1) (off := 35) (t := 36) hC dX4_total_1 (by rw [c1]; decide +kernel) (by rw [c1]; decide +kernel) (by rw [c1]; decide +kernel) (by decide) ?_
    refine go_aload_n hC dX4_total_36 rfl 0 rfl ?_
    obtain ⟨h2, h⟩ := os_1 h
    refine go_getV 5 hC h2 rfl rfl (C := RX4) (T := TX4) (N := 7) rfl inlX4 (by decide) m_56 (Or.inl rfl) dX4_total_37 ?_
    cases h
  have h := os_f h c1
  by_cases c3 : v1 = (1 : Int32)
  · have h := os_t h c3
    refine go_tabIn (a := v1) (off := 40) (t := 41) hC dX4_total_1 (by rw [c3]; decide +kernel) (by rw [c3]; decide +kernel) (by rw [c3]; decide +kernel) (by decide) ?_
    refine go_aload_n hC dX4_total_41 rfl 0 rfl ?_
    obtain ⟨h4, h⟩ := os_1 h
    obtain ⟨b5, h6, h⟩ := os_b h
    refine go_getR 2 hC h4 rfl rfl h6 (C := RX4) (T := TX4) (N := 7) rfl inlX4 (by decide) m_21 (Or.inl rfl) dX4_total_42 ?_
    obtain ⟨h10, h⟩ := os_1 h
    obtain ⟨r7, M8, h9, h⟩ := os_c h
    refine go_callV (bytes := cJx4a65c_size_8abf5) (maxL := 1) (ret := (some .int)) (n := 0) (As := []) (st := []) hE (c_Jx4a65c_size_8abf5 K.2.1 h9) (by unfold okY; decide +kernel) rfl h10 rfl (C := RJx4a65c) (T := TJx4a65c) (N := 3) rfl m_159 m_156 m_157 m_158 m_19 rfl (by simp [Value.category]) (by decide) (by decide) dX4_total_45 ?_
    refine go_eq (pc' := 48) (st' := [.int r7]) (M' := M8) (lv' := [(0, .ref v0), (1, .int v1)]) ?_ rfl rfl rfl rfl
    cases h
  have h := os_f h c3
  by_cases c11 : v1 = (2 : Int32)
  · have h := os_t h c11
    refine go_tabIn (a := v1) (off := 48) (t := 49) hC dX4_total_1 (by rw [c11]; decide +kernel) (by rw [c11]; decide +kernel) (by rw [c11]; decide +kernel) (by decide) ?_
    refine go_aload_n hC dX4_total_49 rfl 0 rfl ?_
    obtain ⟨h12, h⟩ := os_1 h
    refine go_getV 6 hC h12 rfl rfl (C := RX4) (T := TX4) (N := 7) rfl inlX4 (by decide) m_57 (Or.inl rfl) dX4_total_50 ?_
    cases h
  have h := os_f h c11
  by_cases c13 : v1 = (3 : Int32)
  · have h := os_t h c13
    refine go_tabIn (a := v1) (off := 53) (t := 54) hC dX4_total_1 (by rw [c13]; decide +kernel) (by rw [c13]; decide +kernel) (by rw [c13]; decide +kernel) (by decide) ?_
    refine go_aload_n hC dX4_total_54 rfl 0 rfl ?_
    obtain ⟨h17, h⟩ := os_1 h
    obtain ⟨r14, M15, h16, h⟩ := os_c h
    refine go_callV (bytes := cX4_keptTells) (maxL := 3) (ret := (some .int)) (n := 0) (As := []) (st := []) hE (c_X4_keptTells K.2.1 h16) (by unfold okY; decide +kernel) rfl h17 rfl (C := RX4) (T := TX4) (N := 7) rfl m_807 m_804 m_805 m_806 m_2 rfl (by simp [Value.category]) (by decide) (by decide) dX4_total_55 ?_
    refine go_eq (pc' := 58) (st' := [.int r14]) (M' := M15) (lv' := [(0, .ref v0), (1, .int v1)]) ?_ rfl rfl rfl rfl
    cases h
  have h := os_f h c13
  by_cases c18 : v1 = (4 : Int32)
  · have h := os_t h c18
    refine go_tabIn (a := v1) (off := 58) (t := 59) hC dX4_total_1 (by rw [c18]; decide +kernel) (by rw [c18]; decide +kernel) (by rw [c18]; decide +kernel) (by decide) ?_
    refine go_aload_n hC dX4_total_59 rfl 0 rfl ?_
    obtain ⟨h22, h⟩ := os_1 h
    obtain ⟨r19, M20, h21, h⟩ := os_c h
    refine go_callV (bytes := cX4_sitesUp) (maxL := 3) (ret := (some .int)) (n := 0) (As := []) (st := []) hE (c_X4_sitesUp K.2.1 h21) (by unfold okY; decide +kernel) rfl h22 rfl (C := RX4) (T := TX4) (N := 7) rfl m_811 m_808 m_809 m_810 m_2 rfl (by simp [Value.category]) (by decide) (by decide) dX4_total_60 ?_
    refine go_eq (pc' := 63) (st' := [.int r19]) (M' := M20) (lv' := [(0, .ref v0), (1, .int v1)]) ?_ rfl rfl rfl rfl
    cases h
  have h := os_f h c18
  refine go_tabOut (a := v1) (t := 64) hC dX4_total_1 (by have z0 := lv_neT c1 (a := 0) (by decide +kernel); have z1 := lv_neT c3 (a := 1) (by decide +kernel); have z2 := lv_neT c11 (a := 2) (by decide +kernel); have z3 := lv_neT c13 (a := 3) (by decide +kernel); have z4 := lv_neT c18 (a := 4) (by decide +kernel); omega) (by decide) ?_
  obtain ⟨h23, h⟩ := os_1 h
  cases h
  exact go_throw1 hX m_118 m_119 (fun s H h => h.2.2.2.2.2.2.2.2.2.2.2.1) h23 (by decide) (by decide) (by simp [Value.category]) dX4_total_64 dX4_total_67 dX4_total_68 dX4_total_70 dX4_total_73
theorem cX_X4_total (l : Launch) (hl : l.stackTraces = false) {x9 : Cx} {k9 : Nat} {M M9 : Mm} {c9 : Nat} {v0 : Nat} {v1 : Int32} (h : fX4_total x9 k9 v0 v1 M = some (.inl c9, M9)) : FnX l x9 yX4_total cX4_total 2 (some .int) 6 90 [.ref v0, .int v1] M c9 M9 :=
  FnX.of hl (by decide +kernel) (Nat.le_of_ble_eq_true rfl) rfl (fun K _ hX => uX4_total_0 hX _ _ _ h)
