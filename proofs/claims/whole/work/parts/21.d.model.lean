/-! X5_put -/
def fX5_put (x9 : Cx) (k9 : Nat) (v0 : Nat) (v1 : Int32) (M : Mm) : Option (Unit × Mm) :=
  if mK M v0 = 6 then ob1 (mP M v0 25) (fun b2 => if mK M v0 = 6 then if mK M b2 = 8 ∧ ¬ ((mV M v0 26) < 0 ∨ mN M b2 ≤ ((mV M v0 26)).toNatClampNeg) then if mK (sV M b2 ((mV M v0 26)).toNatClampNeg (v1 &&& (255 : Int32))) v0 = 6 then if mK (sV M b2 ((mV M v0 26)).toNatClampNeg (v1 &&& (255 : Int32))) v0 = 6 then lt1 (sV (sV M b2 ((mV M v0 26)).toNatClampNeg (v1 &&& (255 : Int32))) v0 26 ((mV (sV M b2 ((mV M v0 26)).toNatClampNeg (v1 &&& (255 : Int32))) v0 26) + (1 : Int32))) (fun M8 => some ((), M8)) else none else none else none else none) else none
set_option maxRecDepth 100000 in
set_option maxHeartbeats 4000000 in
theorem tX5_put_0 {x9 : Cx} {K : Ct} {k9 : Nat} {M0 M9 : Mm} {r9 : Unit} (hE : Ce x9 K RX5 cX5_put 2 none 0 0 "put" M0) (v0 : Nat) (v1 : Int32) (M : Mm) (h : fX5_put x9 k9 v0 v1 M = some (r9, M9)) : Go x9 K 2 (Qf x9 K M0 none M9) 0 [(0, .ref v0), (1, .int v1)] [] M := by
  have hC := hE.1
  have hnm := hE.2.2.2.2.2.2.2.1
  unfold fX5_put at h
  refine go_aload_n hC dX5_put_0 rfl 0 rfl ?_
  obtain ⟨h1, h⟩ := os_1 h
  obtain ⟨b2, h3, h⟩ := os_b h
  refine go_getR 25 hC h1 rfl rfl h3 (C := RX5) (T := TX5) (N := 28) rfl inlX5 (by decide) m_97 (Or.inl rfl) dX5_put_1 ?_
  refine go_aload_n hC dX5_put_4 rfl 0 rfl ?_
  obtain ⟨h4, h⟩ := os_1 h
  refine go_getV 26 hC h4 rfl rfl (C := RX5) (T := TX5) (N := 28) rfl inlX5 (by decide) m_713 (Or.inl rfl) dX5_put_5 ?_
  refine go_iload_n hC dX5_put_8 rfl 1 rfl ?_
  refine go_sipush hC dX5_put_9 (v := (255 : Int32)) (by decide +kernel) ?_
  refine go_iand hC dX5_put_12 ?_
  obtain ⟨h5, h⟩ := os_1 h
  refine go_iast hC h5.1 h5.2 dX5_put_13 ?_
  refine go_aload_n hC dX5_put_14 rfl 0 rfl ?_
  refine go_dup hC dX5_put_15 rfl ?_
  obtain ⟨h6, h⟩ := os_1 h
  refine go_getV 26 hC h6 rfl rfl (C := RX5) (T := TX5) (N := 28) rfl inlX5 (by decide) m_713 (Or.inl rfl) dX5_put_16 ?_
  refine go_iconst hC dX5_put_19 (v := (1 : Int32)) (by decide +kernel) ?_
  refine go_iadd hC dX5_put_20 ?_
  obtain ⟨h7, h⟩ := os_1 h
  refine go_putV 26 hC h7 rfl rfl (C := RX5) (T := TX5) (N := 28) rfl inlX5 tyX5 tyX5_ok nmX5 (by decide) m_713 (Or.inl rfl) (Or.inl rfl) (tyX5_ok 26 (by decide)) rfl rfl dX5_put_21 ?_
  obtain ⟨M8, e9, h⟩ := os_l h
  refine go_eq (pc' := 24) (st' := []) (M' := M8) (lv' := [(0, .ref v0), (1, .int v1)]) ?_ rfl rfl rfl e9
  cases h
  exact go_vret hE dX5_put_24
theorem c_X5_put (l : Launch) {x9 : Cx} {k9 : Nat} {M M9 : Mm} {r9 : Unit} {v0 : Nat} {v1 : Int32} (h : fX5_put x9 k9 v0 v1 M = some (r9, M9)) : Fn l x9 yX5_put cX5_put 2 none 0 0 [.ref v0, .int v1] M none M9 :=
  Fn.of (by decide +kernel) (Nat.le_of_ble_eq_true rfl) rfl (fun K _ hE => tX5_put_0 hE _ _ _ h)
/-! X5_putTwo -/
def fX5_putTwo (x9 : Cx) (k9 : Nat) (v0 : Nat) (v1 : Int32) (M : Mm) : Option (Unit × Mm) :=
  if mK M v0 = 6 then ob2 (fX5_put x9 k9 v0 (v1 >>> ((8 : Int32) &&& 31)) M) (fun r1 M2 => if mK M2 v0 = 6 then ob2 (fX5_put x9 k9 v0 v1 M2) (fun r5 M6 => some ((), M6)) else none) else none
set_option maxRecDepth 100000 in
set_option maxHeartbeats 4000000 in
theorem tX5_putTwo_0 {x9 : Cx} {K : Ct} {k9 : Nat} {M0 M9 : Mm} {r9 : Unit} (hE : Ce x9 K RX5 cX5_putTwo 2 none 1 21 "putTwo" M0) (v0 : Nat) (v1 : Int32) (M : Mm) (h : fX5_putTwo x9 k9 v0 v1 M = some (r9, M9)) : Go x9 K 2 (Qf x9 K M0 none M9) 0 [(0, .ref v0), (1, .int v1)] [] M := by
  have hC := hE.1
  have hnm := hE.2.2.2.2.2.2.2.1
  unfold fX5_putTwo at h
  refine go_aload_n hC dX5_putTwo_0 rfl 0 rfl ?_
  refine go_iload_n hC dX5_putTwo_1 rfl 1 rfl ?_
  refine go_bipush hC dX5_putTwo_2 (v := (8 : Int32)) (by decide +kernel) ?_
  refine go_ishr hC dX5_putTwo_4 ?_
  obtain ⟨h4, h⟩ := os_1 h
  obtain ⟨r1, M2, h3, h⟩ := os_c h
  refine go_callV (bytes := cX5_put) (maxL := 2) (ret := none) (n := 1) (As := [.int (v1 >>> ((8 : Int32) &&& 31))]) (st := []) hE (c_X5_put K.2.1 h3) (by unfold okY; decide +kernel) rfl h4 rfl (C := RX5) (T := TX5) (N := 28) rfl m_718 m_715 m_716 m_717 m_5 rfl (by simp [Value.category]) (by decide) (by decide) dX5_putTwo_5 ?_
  refine go_eq (pc' := 8) (st' := []) (M' := M2) (lv' := [(0, .ref v0), (1, .int v1)]) ?_ rfl rfl rfl rfl
  refine go_aload_n hC dX5_putTwo_8 rfl 0 rfl ?_
  refine go_iload_n hC dX5_putTwo_9 rfl 1 rfl ?_
  obtain ⟨h8, h⟩ := os_1 h
  obtain ⟨r5, M6, h7, h⟩ := os_c h
  refine go_callV (bytes := cX5_put) (maxL := 2) (ret := none) (n := 1) (As := [.int v1]) (st := []) hE (c_X5_put K.2.1 h7) (by unfold okY; decide +kernel) rfl h8 rfl (C := RX5) (T := TX5) (N := 28) rfl m_718 m_715 m_716 m_717 m_5 rfl (by simp [Value.category]) (by decide) (by decide) dX5_putTwo_10 ?_
  refine go_eq (pc' := 13) (st' := []) (M' := M6) (lv' := [(0, .ref v0), (1, .int v1)]) ?_ rfl rfl rfl rfl
  cases h
  exact go_vret hE dX5_putTwo_13
theorem c_X5_putTwo (l : Launch) {x9 : Cx} {k9 : Nat} {M M9 : Mm} {r9 : Unit} {v0 : Nat} {v1 : Int32} (h : fX5_putTwo x9 k9 v0 v1 M = some (r9, M9)) : Fn l x9 yX5_putTwo cX5_putTwo 2 none 1 21 [.ref v0, .int v1] M none M9 :=
  Fn.of (by decide +kernel) (Nat.le_of_ble_eq_true rfl) rfl (fun K _ hE => tX5_putTwo_0 hE _ _ _ h)
/-! X5_putStart -/
def fX5_putStart_2 (x9 : Cx) (k9 : Nat) : Nat → Nat → Int32 → Int32 → Mm → Option (Unit × Mm)
  | 0, _, _, _, _ => none
  | n9 + 1, v0, v1, v2, M => if mK M v0 = 6 then if (mV M v0 0) ≤ v2 then some ((), M) else if mK M v0 = 6 then ob1 (mP M v0 9) (fun b4 => if mK M b4 = 8 ∧ ¬ ((((5 : Int32) * v1) + v2) < 0 ∨ mN M b4 ≤ ((((5 : Int32) * v1) + v2)).toNatClampNeg) then if mK M v0 = 6 then ob2 (fX5_putTwo x9 k9 v0 (mV M b4 ((((5 : Int32) * v1) + v2)).toNatClampNeg) M) (fun r7 M8 => fX5_putStart_2 x9 k9 n9 v0 v1 (v2 + 1) M8) else none else none) else none else none
set_option maxRecDepth 100000 in
set_option maxHeartbeats 4000000 in
theorem tX5_putStart_2 {x9 : Cx} {K : Ct} {k9 : Nat} {M0 M9 : Mm} {r9 : Unit} (hE : Ce x9 K RX5 cX5_putStart 3 none 2 42 "putStart" M0) : ∀ (n9 : Nat) (v0 : Nat) (v1 : Int32) (v2 : Int32) (M : Mm), fX5_putStart_2 x9 k9 n9 v0 v1 v2 M = some (r9, M9) → Go x9 K 3 (Qf x9 K M0 none M9) 2 [(0, .ref v0), (1, .int v1), (2, .int v2)] [] M := by
  have hC := hE.1
  have hnm := hE.2.2.2.2.2.2.2.1
  intro n9
  induction n9 with
  | zero => intro _ _ _ _ h; cases h
  | succ n9 ih =>
    intro v0 v1 v2 M h
    rw [fX5_putStart_2] at h
    refine go_iload_n hC dX5_putStart_2 rfl 2 rfl ?_
    refine go_aload_n hC dX5_putStart_3 rfl 0 rfl ?_
    obtain ⟨h1, h⟩ := os_1 h
    refine go_getV 0 hC h1 rfl rfl (C := RX5) (T := TX5) (N := 28) rfl inlX5 (by decide) m_75 (Or.inl rfl) dX5_putStart_4 ?_
    refine go_icmp_ge (t := 30) hC dX5_putStart_7 (by decide) (fun c2 => ?_) (fun c2 => ?_)
    · have h := os_t h c2
      cases h
      exact go_vret hE dX5_putStart_30
    · have h := os_f h c2
      refine go_aload_n hC dX5_putStart_10 rfl 0 rfl ?_
      refine go_aload_n hC dX5_putStart_11 rfl 0 rfl ?_
      obtain ⟨h3, h⟩ := os_1 h
      obtain ⟨b4, h5, h⟩ := os_b h
      refine go_getR 9 hC h3 rfl rfl h5 (C := RX5) (T := TX5) (N := 28) rfl inlX5 (by decide) m_83 (Or.inl rfl) dX5_putStart_12 ?_
      refine go_iconst hC dX5_putStart_15 (v := (5 : Int32)) (by decide +kernel) ?_
      refine go_iload_n hC dX5_putStart_16 rfl 1 rfl ?_
      refine go_imul hC dX5_putStart_17 ?_
      refine go_iload_n hC dX5_putStart_18 rfl 2 rfl ?_
      refine go_iadd hC dX5_putStart_19 ?_
      obtain ⟨h6, h⟩ := os_1 h
      refine go_iald hC h6.1 h6.2 dX5_putStart_20 ?_
      obtain ⟨h10, h⟩ := os_1 h
      obtain ⟨r7, M8, h9, h⟩ := os_c h
      refine go_callV (bytes := cX5_putTwo) (maxL := 2) (ret := none) (n := 1) (As := [.int (mV M b4 ((((5 : Int32) * v1) + v2)).toNatClampNeg)]) (st := []) hE (c_X5_putTwo K.2.1 h9) (by unfold okY; decide +kernel) rfl h10 rfl (C := RX5) (T := TX5) (N := 28) rfl m_722 m_719 m_720 m_721 m_5 rfl (by simp [Value.category]) (by decide) (by decide) dX5_putStart_21 ?_
      refine go_eq (pc' := 24) (st' := []) (M' := M8) (lv' := [(0, .ref v0), (1, .int v1), (2, .int v2)]) ?_ rfl rfl rfl rfl
      refine go_iinc (q := 2) (v := (v2 + 1)) (lv' := [(2, .int (v2 + 1)), (0, .ref v0), (1, .int v1)]) hC dX5_putStart_24 rfl rfl (by decide) rfl ?_
      refine go_goto (t := 2) hC dX5_putStart_27 (by decide) ?_
      refine go_sub (lv' := [(0, .ref v0), (1, .int v1), (2, .int (v2 + 1))]) [1, 2, 0] rfl ?_
      exact ih _ _ _ _ h
def fX5_putStart (x9 : Cx) (k9 : Nat) (v0 : Nat) (v1 : Int32) (M : Mm) : Option (Unit × Mm) :=
  fX5_putStart_2 x9 k9 k9 v0 v1 (0 : Int32) M
set_option maxRecDepth 100000 in
set_option maxHeartbeats 4000000 in
theorem tX5_putStart_0 {x9 : Cx} {K : Ct} {k9 : Nat} {M0 M9 : Mm} {r9 : Unit} (hE : Ce x9 K RX5 cX5_putStart 3 none 2 42 "putStart" M0) (v0 : Nat) (v1 : Int32) (M : Mm) (h : fX5_putStart x9 k9 v0 v1 M = some (r9, M9)) : Go x9 K 3 (Qf x9 K M0 none M9) 0 [(0, .ref v0), (1, .int v1)] [] M := by
  have hC := hE.1
  have hnm := hE.2.2.2.2.2.2.2.1
  unfold fX5_putStart at h
  refine go_iconst hC dX5_putStart_0 (v := (0 : Int32)) (by decide +kernel) ?_
  refine go_istore_n (lv' := [(2, .int (0 : Int32)), (0, .ref v0), (1, .int v1)]) hC dX5_putStart_1 rfl (by decide) rfl ?_
  refine go_sub (lv' := [(0, .ref v0), (1, .int v1), (2, .int (0 : Int32))]) [1, 2, 0] rfl ?_
  exact tX5_putStart_2 hE k9 _ _ _ _ h
theorem c_X5_putStart (l : Launch) {x9 : Cx} {k9 : Nat} {M M9 : Mm} {r9 : Unit} {v0 : Nat} {v1 : Int32} (h : fX5_putStart x9 k9 v0 v1 M = some (r9, M9)) : Fn l x9 yX5_putStart cX5_putStart 3 none 2 42 [.ref v0, .int v1] M none M9 :=
  Fn.of (by decide +kernel) (Nat.le_of_ble_eq_true rfl) rfl (fun K _ hE => tX5_putStart_0 hE _ _ _ h)
/-! X5_byteOf -/
def fX5_byteOf_403 (x9 : Cx) (k9 : Nat) (s0 : Int32) (M : Mm) : Option (Int32 × Mm) :=
  some (s0, M)
set_option maxRecDepth 100000 in
set_option maxHeartbeats 4000000 in
theorem tX5_byteOf_403 {x9 : Cx} {K : Ct} {k9 : Nat} {M0 M9 : Mm} {r9 : Int32} (hE : Ce x9 K RX5 cX5_byteOf 8 (some .int) 3 64 "byteOf" M0) (s0 : Int32) (M : Mm) (h : fX5_byteOf_403 x9 k9 s0 M = some (r9, M9)) : Go x9 K 8 (Qf x9 K M0 (some (.int r9)) M9) 403 [] [.int s0] M := by
  have hC := hE.1
  have hnm := hE.2.2.2.2.2.2.2.1
  unfold fX5_byteOf_403 at h
  cases h
  exact go_iret hE dX5_byteOf_403
def fX5_byteOf_402 (x9 : Cx) (k9 : Nat) (M : Mm) : Option (Int32 × Mm) :=
  fX5_byteOf_403 x9 k9 (-1 : Int32) M
set_option maxRecDepth 100000 in
set_option maxHeartbeats 4000000 in
theorem tX5_byteOf_402 {x9 : Cx} {K : Ct} {k9 : Nat} {M0 M9 : Mm} {r9 : Int32} (hE : Ce x9 K RX5 cX5_byteOf 8 (some .int) 3 64 "byteOf" M0) (M : Mm) (h : fX5_byteOf_402 x9 k9 M = some (r9, M9)) : Go x9 K 8 (Qf x9 K M0 (some (.int r9)) M9) 402 [] [] M := by
  have hC := hE.1
  have hnm := hE.2.2.2.2.2.2.2.1
  unfold fX5_byteOf_402 at h
  refine go_iconst hC dX5_byteOf_402 (v := (-1 : Int32)) (by decide +kernel) ?_
  exact tX5_byteOf_403 hE _ _ h
def fX5_byteOf_337 (x9 : Cx) (k9 : Nat) : Nat → Nat → Int32 → Int32 → Int32 → Mm → Option (Int32 × Mm)
  | 0, _, _, _, _, _ => none
  | n9 + 1, v0, v2, v6, v7, M => if mK M v0 = 6 then if (mV M v0 26) ≤ v7 then if mK M v0 = 6 then ob2 (fX5_putTwo x9 k9 v0 v6 M) (fun r3 M4 => if v2 < 0 then fX5_byteOf_402 x9 k9 M4 else if mK M4 v0 = 6 then if (mV M4 v0 26) ≤ v2 then fX5_byteOf_402 x9 k9 M4 else if mK M4 v0 = 6 then ob1 (mP M4 v0 25) (fun b11 => if mK M4 b11 = 8 ∧ ¬ (v2 < 0 ∨ mN M4 b11 ≤ (v2).toNatClampNeg) then fX5_byteOf_403 x9 k9 (mV M4 b11 (v2).toNatClampNeg) M4 else none) else none else none) else none else if mK M v0 = 6 then ob1 (mP M v0 25) (fun b15 => if mK M b15 = 8 ∧ ¬ (v7 < 0 ∨ mN M b15 ≤ (v7).toNatClampNeg) then fX5_byteOf_337 x9 k9 n9 v0 v2 ((((v6 <<< ((3 : Int32) &&& 31)) &&& (65535 : Int32)) ||| (v6 >>> ((13 : Int32) &&& 31))) ^^^ (mV M b15 (v7).toNatClampNeg)) (v7 + 1) M else none) else none else none
set_option maxRecDepth 100000 in
set_option maxHeartbeats 4000000 in
theorem tX5_byteOf_337 {x9 : Cx} {K : Ct} {k9 : Nat} {M0 M9 : Mm} {r9 : Int32} (hE : Ce x9 K RX5 cX5_byteOf 8 (some .int) 3 64 "byteOf" M0) : ∀ (n9 : Nat) (v0 : Nat) (v2 : Int32) (v6 : Int32) (v7 : Int32) (M : Mm), fX5_byteOf_337 x9 k9 n9 v0 v2 v6 v7 M = some (r9, M9) → Go x9 K 8 (Qf x9 K M0 (some (.int r9)) M9) 337 [(0, .ref v0), (2, .int v2), (6, .int v6), (7, .int v7)] [] M := by
  have hC := hE.1
  have hnm := hE.2.2.2.2.2.2.2.1
  intro n9
  induction n9 with
  | zero => intro _ _ _ _ _ h; cases h
  | succ n9 ih =>
    intro v0 v2 v6 v7 M h
    rw [fX5_byteOf_337] at h
    refine go_iload hC dX5_byteOf_337 3 rfl ?_
    refine go_aload_n hC dX5_byteOf_339 rfl 0 rfl ?_
    obtain ⟨h1, h⟩ := os_1 h
    refine go_getV 26 hC h1 rfl rfl (C := RX5) (T := TX5) (N := 28) rfl inlX5 (by decide) m_713 (Or.inl rfl) dX5_byteOf_340 ?_
    refine go_icmp_ge (t := 375) hC dX5_byteOf_343 (by decide) (fun c2 => ?_) (fun c2 => ?_)
    · have h := os_t h c2
      refine go_aload_n hC dX5_byteOf_375 rfl 0 rfl ?_
      refine go_iload hC dX5_byteOf_376 2 rfl ?_
      obtain ⟨h6, h⟩ := os_1 h
      obtain ⟨r3, M4, h5, h⟩ := os_c h
      refine go_callV (bytes := cX5_putTwo) (maxL := 2) (ret := none) (n := 1) (As := [.int v6]) (st := []) hE (c_X5_putTwo K.2.1 h5) (by unfold okY; decide +kernel) rfl h6 rfl (C := RX5) (T := TX5) (N := 28) rfl m_722 m_719 m_720 m_721 m_5 rfl (by simp [Value.category]) (by decide) (by decide) dX5_byteOf_378 ?_
      refine go_eq (pc' := 381) (st' := []) (M' := M4) (lv' := [(0, .ref v0), (2, .int v2), (6, .int v6), (7, .int v7)]) ?_ rfl rfl rfl rfl
      refine go_iload_n hC dX5_byteOf_381 rfl 1 rfl ?_
      refine go_if_lt (t := 402) hC dX5_byteOf_382 (by decide) (fun c7 => ?_) (fun c7 => ?_)
      · have h := os_t h c7
        refine go_sub (lv' := []) [] rfl ?_
        exact tX5_byteOf_402 hE _ h
      · have h := os_f h c7
        refine go_iload_n hC dX5_byteOf_385 rfl 1 rfl ?_
        refine go_aload_n hC dX5_byteOf_386 rfl 0 rfl ?_
        obtain ⟨h8, h⟩ := os_1 h
        refine go_getV 26 hC h8 rfl rfl (C := RX5) (T := TX5) (N := 28) rfl inlX5 (by decide) m_713 (Or.inl rfl) dX5_byteOf_387 ?_
        refine go_icmp_ge (t := 402) hC dX5_byteOf_390 (by decide) (fun c9 => ?_) (fun c9 => ?_)
        · have h := os_t h c9
          refine go_sub (lv' := []) [] rfl ?_
          exact tX5_byteOf_402 hE _ h
        · have h := os_f h c9
          refine go_aload_n hC dX5_byteOf_393 rfl 0 rfl ?_
          obtain ⟨h10, h⟩ := os_1 h
          obtain ⟨b11, h12, h⟩ := os_b h
          refine go_getR 25 hC h10 rfl rfl h12 (C := RX5) (T := TX5) (N := 28) rfl inlX5 (by decide) m_97 (Or.inl rfl) dX5_byteOf_394 ?_
          refine go_iload_n hC dX5_byteOf_397 rfl 1 rfl ?_
          obtain ⟨h13, h⟩ := os_1 h
          refine go_iald hC h13.1 h13.2 dX5_byteOf_398 ?_
          refine go_goto (t := 403) hC dX5_byteOf_399 (by decide) ?_
          refine go_sub (lv' := []) [] rfl ?_
          exact tX5_byteOf_403 hE _ _ h
    · have h := os_f h c2
      refine go_iload hC dX5_byteOf_346 2 rfl ?_
      refine go_iconst hC dX5_byteOf_348 (v := (3 : Int32)) (by decide +kernel) ?_
      refine go_ishl hC dX5_byteOf_349 ?_
      refine go_ldc hC (v := (65535 : Int32)) m_714 dX5_byteOf_350 ?_
      refine go_iand hC dX5_byteOf_352 ?_
      refine go_iload hC dX5_byteOf_353 2 rfl ?_
      refine go_bipush hC dX5_byteOf_355 (v := (13 : Int32)) (by decide +kernel) ?_
      refine go_ishr hC dX5_byteOf_357 ?_
      refine go_ior hC dX5_byteOf_358 ?_
      refine go_aload_n hC dX5_byteOf_359 rfl 0 rfl ?_
      obtain ⟨h14, h⟩ := os_1 h
      obtain ⟨b15, h16, h⟩ := os_b h
      refine go_getR 25 hC h14 rfl rfl h16 (C := RX5) (T := TX5) (N := 28) rfl inlX5 (by decide) m_97 (Or.inl rfl) dX5_byteOf_360 ?_
      refine go_iload hC dX5_byteOf_363 3 rfl ?_
      obtain ⟨h17, h⟩ := os_1 h
      refine go_iald hC h17.1 h17.2 dX5_byteOf_365 ?_
      refine go_ixor hC dX5_byteOf_366 ?_
      refine go_istore (lv' := [(6, .int ((((v6 <<< ((3 : Int32) &&& 31)) &&& (65535 : Int32)) ||| (v6 >>> ((13 : Int32) &&& 31))) ^^^ (mV M b15 (v7).toNatClampNeg))), (0, .ref v0), (2, .int v2), (7, .int v7)]) hC dX5_byteOf_367 (by decide) rfl ?_
      refine go_iinc (q := 3) (v := (v7 + 1)) (lv' := [(7, .int (v7 + 1)), (6, .int ((((v6 <<< ((3 : Int32) &&& 31)) &&& (65535 : Int32)) ||| (v6 >>> ((13 : Int32) &&& 31))) ^^^ (mV M b15 (v7).toNatClampNeg))), (0, .ref v0), (2, .int v2)]) hC dX5_byteOf_369 rfl rfl (by decide) rfl ?_
      refine go_goto (t := 337) hC dX5_byteOf_372 (by decide) ?_
      refine go_sub (lv' := [(0, .ref v0), (2, .int v2), (6, .int ((((v6 <<< ((3 : Int32) &&& 31)) &&& (65535 : Int32)) ||| (v6 >>> ((13 : Int32) &&& 31))) ^^^ (mV M b15 (v7).toNatClampNeg))), (7, .int (v7 + 1))]) [2, 3, 1, 0] rfl ?_
      exact ih _ _ _ _ _ h
def fX5_byteOf_331 (x9 : Cx) (k9 : Nat) (v0 : Nat) (v2 : Int32) (M : Mm) : Option (Int32 × Mm) :=
  fX5_byteOf_337 x9 k9 k9 v0 v2 (0 : Int32) (0 : Int32) M
set_option maxRecDepth 100000 in
set_option maxHeartbeats 4000000 in
theorem tX5_byteOf_331 {x9 : Cx} {K : Ct} {k9 : Nat} {M0 M9 : Mm} {r9 : Int32} (hE : Ce x9 K RX5 cX5_byteOf 8 (some .int) 3 64 "byteOf" M0) (v0 : Nat) (v2 : Int32) (M : Mm) (h : fX5_byteOf_331 x9 k9 v0 v2 M = some (r9, M9)) : Go x9 K 8 (Qf x9 K M0 (some (.int r9)) M9) 331 [(0, .ref v0), (2, .int v2)] [] M := by
  have hC := hE.1
  have hnm := hE.2.2.2.2.2.2.2.1
  unfold fX5_byteOf_331 at h
  refine go_iconst hC dX5_byteOf_331 (v := (0 : Int32)) (by decide +kernel) ?_
  refine go_istore (lv' := [(6, .int (0 : Int32)), (0, .ref v0), (2, .int v2)]) hC dX5_byteOf_332 (by decide) rfl ?_
  refine go_iconst hC dX5_byteOf_334 (v := (0 : Int32)) (by decide +kernel) ?_
  refine go_istore (lv' := [(7, .int (0 : Int32)), (6, .int (0 : Int32)), (0, .ref v0), (2, .int v2)]) hC dX5_byteOf_335 (by decide) rfl ?_
  refine go_sub (lv' := [(0, .ref v0), (2, .int v2), (6, .int (0 : Int32)), (7, .int (0 : Int32))]) [2, 3, 1, 0] rfl ?_
  exact tX5_byteOf_337 hE k9 _ _ _ _ _ h
def fX5_byteOf_279 (x9 : Cx) (k9 : Nat) : Nat → Nat → Int32 → Int32 → Int32 → Mm → Option (Int32 × Mm)
  | 0, _, _, _, _, _ => none
  | n9 + 1, v0, v2, v5, v6, M => if mK M v0 = 6 then ob1 (mP M v0 19) (fun b2 => if mK M b2 = 8 ∧ ¬ (v5 < 0 ∨ mN M b2 ≤ (v5).toNatClampNeg) then if (mV M b2 (v5).toNatClampNeg) ≤ v6 then fX5_byteOf_331 x9 k9 v0 v2 M else if mK M v0 = 6 then ob1 (mP M v0 17) (fun b7 => if mK M b7 = 8 ∧ ¬ ((((20 : Int32) * v5) + v6) < 0 ∨ mN M b7 ≤ ((((20 : Int32) * v5) + v6)).toNatClampNeg) then if mK M v0 = 6 then ob2 (fX5_put x9 k9 v0 (mV M b7 ((((20 : Int32) * v5) + v6)).toNatClampNeg) M) (fun r10 M11 => if mK M11 v0 = 6 then ob1 (mP M11 v0 18) (fun b15 => if mK M11 b15 = 8 ∧ ¬ ((((20 : Int32) * v5) + v6) < 0 ∨ mN M11 b15 ≤ ((((20 : Int32) * v5) + v6)).toNatClampNeg) then if mK M11 v0 = 6 then ob2 (fX5_put x9 k9 v0 (mV M11 b15 ((((20 : Int32) * v5) + v6)).toNatClampNeg) M11) (fun r18 M19 => fX5_byteOf_279 x9 k9 n9 v0 v2 v5 (v6 + 1) M19) else none else none) else none) else none else none) else none else none) else none
set_option maxRecDepth 100000 in
set_option maxHeartbeats 4000000 in
theorem tX5_byteOf_279 {x9 : Cx} {K : Ct} {k9 : Nat} {M0 M9 : Mm} {r9 : Int32} (hE : Ce x9 K RX5 cX5_byteOf 8 (some .int) 3 64 "byteOf" M0) : ∀ (n9 : Nat) (v0 : Nat) (v2 : Int32) (v5 : Int32) (v6 : Int32) (M : Mm), fX5_byteOf_279 x9 k9 n9 v0 v2 v5 v6 M = some (r9, M9) → Go x9 K 8 (Qf x9 K M0 (some (.int r9)) M9) 279 [(0, .ref v0), (2, .int v2), (5, .int v5), (6, .int v6)] [] M := by
  have hC := hE.1
  have hnm := hE.2.2.2.2.2.2.2.1
  intro n9
  induction n9 with
  | zero => intro _ _ _ _ _ h; cases h
  | succ n9 ih =>
    intro v0 v2 v5 v6 M h
    rw [fX5_byteOf_279] at h
    refine go_iload hC dX5_byteOf_279 3 rfl ?_
    refine go_aload_n hC dX5_byteOf_281 rfl 0 rfl ?_
    obtain ⟨h1, h⟩ := os_1 h
    obtain ⟨b2, h3, h⟩ := os_b h
    refine go_getR 19 hC h1 rfl rfl h3 (C := RX5) (T := TX5) (N := 28) rfl inlX5 (by decide) m_93 (Or.inl rfl) dX5_byteOf_282 ?_
    refine go_iload hC dX5_byteOf_285 2 rfl ?_
    obtain ⟨h4, h⟩ := os_1 h
    refine go_iald hC h4.1 h4.2 dX5_byteOf_287 ?_
    refine go_icmp_ge (t := 331) hC dX5_byteOf_288 (by decide) (fun c5 => ?_) (fun c5 => ?_)
    · have h := os_t h c5
      refine go_sub (lv' := [(0, .ref v0), (2, .int v2)]) [0, 1] rfl ?_
      exact tX5_byteOf_331 hE _ _ _ h
    · have h := os_f h c5
      refine go_aload_n hC dX5_byteOf_291 rfl 0 rfl ?_
      refine go_aload_n hC dX5_byteOf_292 rfl 0 rfl ?_
      obtain ⟨h6, h⟩ := os_1 h
      obtain ⟨b7, h8, h⟩ := os_b h
      refine go_getR 17 hC h6 rfl rfl h8 (C := RX5) (T := TX5) (N := 28) rfl inlX5 (by decide) m_91 (Or.inl rfl) dX5_byteOf_293 ?_
      refine go_bipush hC dX5_byteOf_296 (v := (20 : Int32)) (by decide +kernel) ?_
      refine go_iload hC dX5_byteOf_298 2 rfl ?_
      refine go_imul hC dX5_byteOf_300 ?_
      refine go_iload hC dX5_byteOf_301 3 rfl ?_
      refine go_iadd hC dX5_byteOf_303 ?_
      obtain ⟨h9, h⟩ := os_1 h
      refine go_iald hC h9.1 h9.2 dX5_byteOf_304 ?_
      obtain ⟨h13, h⟩ := os_1 h
      obtain ⟨r10, M11, h12, h⟩ := os_c h
      refine go_callV (bytes := cX5_put) (maxL := 2) (ret := none) (n := 1) (As := [.int (mV M b7 ((((20 : Int32) * v5) + v6)).toNatClampNeg)]) (st := []) hE (c_X5_put K.2.1 h12) (by unfold okY; decide +kernel) rfl h13 rfl (C := RX5) (T := TX5) (N := 28) rfl m_718 m_715 m_716 m_717 m_5 rfl (by simp [Value.category]) (by decide) (by decide) dX5_byteOf_305 ?_
      refine go_eq (pc' := 308) (st' := []) (M' := M11) (lv' := [(0, .ref v0), (2, .int v2), (5, .int v5), (6, .int v6)]) ?_ rfl rfl rfl rfl
      refine go_aload_n hC dX5_byteOf_308 rfl 0 rfl ?_
      refine go_aload_n hC dX5_byteOf_309 rfl 0 rfl ?_
      obtain ⟨h14, h⟩ := os_1 h
      obtain ⟨b15, h16, h⟩ := os_b h
      refine go_getR 18 hC h14 rfl rfl h16 (C := RX5) (T := TX5) (N := 28) rfl inlX5 (by decide) m_92 (Or.inl rfl) dX5_byteOf_310 ?_
      refine go_bipush hC dX5_byteOf_313 (v := (20 : Int32)) (by decide +kernel) ?_
      refine go_iload hC dX5_byteOf_315 2 rfl ?_
      refine go_imul hC dX5_byteOf_317 ?_
      refine go_iload hC dX5_byteOf_318 3 rfl ?_
      refine go_iadd hC dX5_byteOf_320 ?_
      obtain ⟨h17, h⟩ := os_1 h
      refine go_iald hC h17.1 h17.2 dX5_byteOf_321 ?_
      obtain ⟨h21, h⟩ := os_1 h
      obtain ⟨r18, M19, h20, h⟩ := os_c h
      refine go_callV (bytes := cX5_put) (maxL := 2) (ret := none) (n := 1) (As := [.int (mV M11 b15 ((((20 : Int32) * v5) + v6)).toNatClampNeg)]) (st := []) hE (c_X5_put K.2.1 h20) (by unfold okY; decide +kernel) rfl h21 rfl (C := RX5) (T := TX5) (N := 28) rfl m_718 m_715 m_716 m_717 m_5 rfl (by simp [Value.category]) (by decide) (by decide) dX5_byteOf_322 ?_
      refine go_eq (pc' := 325) (st' := []) (M' := M19) (lv' := [(0, .ref v0), (2, .int v2), (5, .int v5), (6, .int v6)]) ?_ rfl rfl rfl rfl
      refine go_iinc (q := 3) (v := (v6 + 1)) (lv' := [(6, .int (v6 + 1)), (0, .ref v0), (2, .int v2), (5, .int v5)]) hC dX5_byteOf_325 rfl rfl (by decide) rfl ?_
      refine go_goto (t := 279) hC dX5_byteOf_328 (by decide) ?_
      refine go_sub (lv' := [(0, .ref v0), (2, .int v2), (5, .int v5), (6, .int (v6 + 1))]) [1, 2, 3, 0] rfl ?_
      exact ih _ _ _ _ _ h
def fX5_byteOf_260 (x9 : Cx) (k9 : Nat) (v0 : Nat) (v2 : Int32) (v3 : Int32) (v5 : Int32) (M : Mm) : Option (Int32 × Mm) :=
  if v3 = (5 : Int32) then if mK M v0 = 6 then ob1 (mP M v0 19) (fun b3 => if mK M b3 = 8 ∧ ¬ (v5 < 0 ∨ mN M b3 ≤ (v5).toNatClampNeg) then if mK M v0 = 6 then ob2 (fX5_put x9 k9 v0 (mV M b3 (v5).toNatClampNeg) M) (fun r6 M7 => fX5_byteOf_279 x9 k9 k9 v0 v2 v5 (0 : Int32) M7) else none else none) else none else fX5_byteOf_331 x9 k9 v0 v2 M
set_option maxRecDepth 100000 in
set_option maxHeartbeats 4000000 in
theorem tX5_byteOf_260 {x9 : Cx} {K : Ct} {k9 : Nat} {M0 M9 : Mm} {r9 : Int32} (hE : Ce x9 K RX5 cX5_byteOf 8 (some .int) 3 64 "byteOf" M0) (v0 : Nat) (v2 : Int32) (v3 : Int32) (v5 : Int32) (M : Mm) (h : fX5_byteOf_260 x9 k9 v0 v2 v3 v5 M = some (r9, M9)) : Go x9 K 8 (Qf x9 K M0 (some (.int r9)) M9) 260 [(0, .ref v0), (2, .int v2), (3, .int v3), (5, .int v5)] [] M := by
  have hC := hE.1
  have hnm := hE.2.2.2.2.2.2.2.1
  unfold fX5_byteOf_260 at h
  refine go_iload_n hC dX5_byteOf_260 rfl 2 rfl ?_
  refine go_iconst hC dX5_byteOf_261 (v := (5 : Int32)) (by decide +kernel) ?_
  refine go_icmp_ne (t := 331) hC dX5_byteOf_262 (by decide) (fun c1 => ?_) (fun c1 => ?_)
  · have h := os_f h c1
    refine go_sub (lv' := [(0, .ref v0), (2, .int v2)]) [0, 1] rfl ?_
    exact tX5_byteOf_331 hE _ _ _ h
  · have h := os_t h c1
    refine go_aload_n hC dX5_byteOf_265 rfl 0 rfl ?_
    refine go_aload_n hC dX5_byteOf_266 rfl 0 rfl ?_
    obtain ⟨h2, h⟩ := os_1 h
    obtain ⟨b3, h4, h⟩ := os_b h
    refine go_getR 19 hC h2 rfl rfl h4 (C := RX5) (T := TX5) (N := 28) rfl inlX5 (by decide) m_93 (Or.inl rfl) dX5_byteOf_267 ?_
    refine go_iload hC dX5_byteOf_270 3 rfl ?_
    obtain ⟨h5, h⟩ := os_1 h
    refine go_iald hC h5.1 h5.2 dX5_byteOf_272 ?_
    obtain ⟨h9, h⟩ := os_1 h
    obtain ⟨r6, M7, h8, h⟩ := os_c h
    refine go_callV (bytes := cX5_put) (maxL := 2) (ret := none) (n := 1) (As := [.int (mV M b3 (v5).toNatClampNeg)]) (st := []) hE (c_X5_put K.2.1 h8) (by unfold okY; decide +kernel) rfl h9 rfl (C := RX5) (T := TX5) (N := 28) rfl m_718 m_715 m_716 m_717 m_5 rfl (by simp [Value.category]) (by decide) (by decide) dX5_byteOf_273 ?_
    refine go_eq (pc' := 276) (st' := []) (M' := M7) (lv' := [(0, .ref v0), (2, .int v2), (3, .int v3), (5, .int v5)]) ?_ rfl rfl rfl rfl
    refine go_iconst hC dX5_byteOf_276 (v := (0 : Int32)) (by decide +kernel) ?_
    refine go_istore (lv' := [(6, .int (0 : Int32)), (0, .ref v0), (2, .int v2), (3, .int v3), (5, .int v5)]) hC dX5_byteOf_277 (by decide) rfl ?_
    refine go_sub (lv' := [(0, .ref v0), (2, .int v2), (5, .int v5), (6, .int (0 : Int32))]) [1, 2, 4, 0] rfl ?_
    exact tX5_byteOf_279 hE k9 _ _ _ _ _ h
def fX5_byteOf_254 (x9 : Cx) (k9 : Nat) (rec152 : Nat → Int32 → Int32 → Int32 → Int32 → Int32 → Int32 → Mm → Option (Int32 × Mm)) (v0 : Nat) (v2 : Int32) (v3 : Int32) (v4 : Int32) (v5 : Int32) (v6 : Int32) (v7 : Int32) (M : Mm) : Option (Int32 × Mm) :=
  rec152 v0 v2 v3 v4 v5 v6 (v7 + 1) M
set_option maxRecDepth 100000 in
set_option maxHeartbeats 4000000 in
theorem tX5_byteOf_254 {x9 : Cx} {K : Ct} {k9 : Nat} {M0 M9 : Mm} {r9 : Int32} (hE : Ce x9 K RX5 cX5_byteOf 8 (some .int) 3 64 "byteOf" M0) {rec152 : Nat → Int32 → Int32 → Int32 → Int32 → Int32 → Int32 → Mm → Option (Int32 × Mm)} (hrec152 : ∀ (v0 : Nat) (v2 : Int32) (v3 : Int32) (v4 : Int32) (v5 : Int32) (v6 : Int32) (v7 : Int32) (M : Mm), rec152 v0 v2 v3 v4 v5 v6 v7 M = some (r9, M9) → Go x9 K 8 (Qf x9 K M0 (some (.int r9)) M9) 152 [(0, .ref v0), (2, .int v2), (3, .int v3), (4, .int v4), (5, .int v5), (6, .int v6), (7, .int v7)] [] M) (v0 : Nat) (v2 : Int32) (v3 : Int32) (v4 : Int32) (v5 : Int32) (v6 : Int32) (v7 : Int32) (M : Mm) (h : fX5_byteOf_254 x9 k9 rec152 v0 v2 v3 v4 v5 v6 v7 M = some (r9, M9)) : Go x9 K 8 (Qf x9 K M0 (some (.int r9)) M9) 254 [(0, .ref v0), (2, .int v2), (3, .int v3), (4, .int v4), (5, .int v5), (6, .int v6), (7, .int v7)] [] M := by
  have hC := hE.1
  have hnm := hE.2.2.2.2.2.2.2.1
  unfold fX5_byteOf_254 at h
  refine go_iinc (q := 6) (v := (v7 + 1)) (lv' := [(7, .int (v7 + 1)), (0, .ref v0), (2, .int v2), (3, .int v3), (4, .int v4), (5, .int v5), (6, .int v6)]) hC dX5_byteOf_254 rfl rfl (by decide) rfl ?_
  refine go_goto (t := 152) hC dX5_byteOf_257 (by decide) ?_
  refine go_sub (lv' := [(0, .ref v0), (2, .int v2), (3, .int v3), (4, .int v4), (5, .int v5), (6, .int v6), (7, .int (v7 + 1))]) [1, 2, 3, 4, 5, 6, 0] rfl ?_
  exact hrec152 _ _ _ _ _ _ _ _ h
def fX5_byteOf_195 (x9 : Cx) (k9 : Nat) (rec152 : Nat → Int32 → Int32 → Int32 → Int32 → Int32 → Int32 → Mm → Option (Int32 × Mm)) (v0 : Nat) (v2 : Int32) (v3 : Int32) (v4 : Int32) (v5 : Int32) (v6 : Int32) (v7 : Int32) (M : Mm) : Option (Int32 × Mm) :=
  if mK M v0 = 6 then ob1 (mP M v0 25) (fun b2 => if mK M b2 = 8 ∧ ¬ (v6 < 0 ∨ mN M b2 ≤ (v6).toNatClampNeg) then if mK M b2 = 8 ∧ ¬ (v6 < 0 ∨ mN M b2 ≤ (v6).toNatClampNeg) then lt1 (sV M b2 (v6).toNatClampNeg ((mV M b2 (v6).toNatClampNeg) + (1 : Int32))) (fun M6 => if mK M6 v0 = 6 then ob2 (fX5_put x9 k9 v0 v7 M6) (fun r8 M9 => if v3 = (5 : Int32) then if mK M9 v0 = 6 then ob1 (mP M9 v0 16) (fun b14 => if mK M9 b14 = 8 ∧ ¬ ((((20 : Int32) * v5) + v7) < 0 ∨ mN M9 b14 ≤ ((((20 : Int32) * v5) + v7)).toNatClampNeg) then if mK M9 v0 = 6 then ob2 (fX5_putTwo x9 k9 v0 ((mV M9 b14 ((((20 : Int32) * v5) + v7)).toNatClampNeg) >>> ((16 : Int32) &&& 31)) M9) (fun r17 M18 => if mK M18 v0 = 6 then ob1 (mP M18 v0 16) (fun b22 => if mK M18 b22 = 8 ∧ ¬ ((((20 : Int32) * v5) + v7) < 0 ∨ mN M18 b22 ≤ ((((20 : Int32) * v5) + v7)).toNatClampNeg) then if mK M18 v0 = 6 then ob2 (fX5_putTwo x9 k9 v0 (mV M18 b22 ((((20 : Int32) * v5) + v7)).toNatClampNeg) M18) (fun r25 M26 => fX5_byteOf_254 x9 k9 rec152 v0 v2 v3 v4 v5 v6 v7 M26) else none else none) else none) else none else none) else none else fX5_byteOf_254 x9 k9 rec152 v0 v2 v3 v4 v5 v6 v7 M9) else none) else none else none) else none
set_option maxRecDepth 100000 in
set_option maxHeartbeats 4000000 in
theorem tX5_byteOf_195 {x9 : Cx} {K : Ct} {k9 : Nat} {M0 M9 : Mm} {r9 : Int32} (hE : Ce x9 K RX5 cX5_byteOf 8 (some .int) 3 64 "byteOf" M0) {rec152 : Nat → Int32 → Int32 → Int32 → Int32 → Int32 → Int32 → Mm → Option (Int32 × Mm)} (hrec152 : ∀ (v0 : Nat) (v2 : Int32) (v3 : Int32) (v4 : Int32) (v5 : Int32) (v6 : Int32) (v7 : Int32) (M : Mm), rec152 v0 v2 v3 v4 v5 v6 v7 M = some (r9, M9) → Go x9 K 8 (Qf x9 K M0 (some (.int r9)) M9) 152 [(0, .ref v0), (2, .int v2), (3, .int v3), (4, .int v4), (5, .int v5), (6, .int v6), (7, .int v7)] [] M) (v0 : Nat) (v2 : Int32) (v3 : Int32) (v4 : Int32) (v5 : Int32) (v6 : Int32) (v7 : Int32) (M : Mm) (h : fX5_byteOf_195 x9 k9 rec152 v0 v2 v3 v4 v5 v6 v7 M = some (r9, M9)) : Go x9 K 8 (Qf x9 K M0 (some (.int r9)) M9) 195 [(0, .ref v0), (2, .int v2), (3, .int v3), (4, .int v4), (5, .int v5), (6, .int v6), (7, .int v7)] [] M := by
  have hC := hE.1
  have hnm := hE.2.2.2.2.2.2.2.1
  unfold fX5_byteOf_195 at h
  refine go_aload_n hC dX5_byteOf_195 rfl 0 rfl ?_
  obtain ⟨h1, h⟩ := os_1 h
  obtain ⟨b2, h3, h⟩ := os_b h
  refine go_getR 25 hC h1 rfl rfl h3 (C := RX5) (T := TX5) (N := 28) rfl inlX5 (by decide) m_97 (Or.inl rfl) dX5_byteOf_196 ?_
  refine go_iload hC dX5_byteOf_199 5 rfl ?_
  refine go_dup2 hC dX5_byteOf_201 rfl rfl ?_
  obtain ⟨h4, h⟩ := os_1 h
  refine go_iald hC h4.1 h4.2 dX5_byteOf_202 ?_
  refine go_iconst hC dX5_byteOf_203 (v := (1 : Int32)) (by decide +kernel) ?_
  refine go_iadd hC dX5_byteOf_204 ?_
  obtain ⟨h5, h⟩ := os_1 h
  refine go_iast hC h5.1 h5.2 dX5_byteOf_205 ?_
  obtain ⟨M6, e7, h⟩ := os_l h
  refine go_eq (pc' := 206) (st' := []) (M' := M6) (lv' := [(0, .ref v0), (2, .int v2), (3, .int v3), (4, .int v4), (5, .int v5), (6, .int v6), (7, .int v7)]) ?_ rfl rfl rfl e7
  refine go_aload_n hC dX5_byteOf_206 rfl 0 rfl ?_
  refine go_iload hC dX5_byteOf_207 6 rfl ?_
  obtain ⟨h11, h⟩ := os_1 h
  obtain ⟨r8, M9, h10, h⟩ := os_c h
  refine go_callV (bytes := cX5_put) (maxL := 2) (ret := none) (n := 1) (As := [.int v7]) (st := []) hE (c_X5_put K.2.1 h10) (by unfold okY; decide +kernel) rfl h11 rfl (C := RX5) (T := TX5) (N := 28) rfl m_718 m_715 m_716 m_717 m_5 rfl (by simp [Value.category]) (by decide) (by decide) dX5_byteOf_209 ?_
  refine go_eq (pc' := 212) (st' := []) (M' := M9) (lv' := [(0, .ref v0), (2, .int v2), (3, .int v3), (4, .int v4), (5, .int v5), (6, .int v6), (7, .int v7)]) ?_ rfl rfl rfl rfl
  refine go_iload_n hC dX5_byteOf_212 rfl 2 rfl ?_
  refine go_iconst hC dX5_byteOf_213 (v := (5 : Int32)) (by decide +kernel) ?_
  refine go_icmp_ne (t := 254) hC dX5_byteOf_214 (by decide) (fun c12 => ?_) (fun c12 => ?_)
  · have h := os_f h c12
    exact tX5_byteOf_254 hE hrec152 _ _ _ _ _ _ _ _ h
  · have h := os_t h c12
    refine go_aload_n hC dX5_byteOf_217 rfl 0 rfl ?_
    refine go_aload_n hC dX5_byteOf_218 rfl 0 rfl ?_
    obtain ⟨h13, h⟩ := os_1 h
    obtain ⟨b14, h15, h⟩ := os_b h
    refine go_getR 16 hC h13 rfl rfl h15 (C := RX5) (T := TX5) (N := 28) rfl inlX5 (by decide) m_90 (Or.inl rfl) dX5_byteOf_219 ?_
    refine go_bipush hC dX5_byteOf_222 (v := (20 : Int32)) (by decide +kernel) ?_
    refine go_iload hC dX5_byteOf_224 4 rfl ?_
    refine go_imul hC dX5_byteOf_226 ?_
    refine go_iload hC dX5_byteOf_227 6 rfl ?_
    refine go_iadd hC dX5_byteOf_229 ?_
    obtain ⟨h16, h⟩ := os_1 h
    refine go_iald hC h16.1 h16.2 dX5_byteOf_230 ?_
    refine go_bipush hC dX5_byteOf_231 (v := (16 : Int32)) (by decide +kernel) ?_
    refine go_ishr hC dX5_byteOf_233 ?_
    obtain ⟨h20, h⟩ := os_1 h
    obtain ⟨r17, M18, h19, h⟩ := os_c h
    refine go_callV (bytes := cX5_putTwo) (maxL := 2) (ret := none) (n := 1) (As := [.int ((mV M9 b14 ((((20 : Int32) * v5) + v7)).toNatClampNeg) >>> ((16 : Int32) &&& 31))]) (st := []) hE (c_X5_putTwo K.2.1 h19) (by unfold okY; decide +kernel) rfl h20 rfl (C := RX5) (T := TX5) (N := 28) rfl m_722 m_719 m_720 m_721 m_5 rfl (by simp [Value.category]) (by decide) (by decide) dX5_byteOf_234 ?_
    refine go_eq (pc' := 237) (st' := []) (M' := M18) (lv' := [(0, .ref v0), (2, .int v2), (3, .int v3), (4, .int v4), (5, .int v5), (6, .int v6), (7, .int v7)]) ?_ rfl rfl rfl rfl
    refine go_aload_n hC dX5_byteOf_237 rfl 0 rfl ?_
    refine go_aload_n hC dX5_byteOf_238 rfl 0 rfl ?_
    obtain ⟨h21, h⟩ := os_1 h
    obtain ⟨b22, h23, h⟩ := os_b h
    refine go_getR 16 hC h21 rfl rfl h23 (C := RX5) (T := TX5) (N := 28) rfl inlX5 (by decide) m_90 (Or.inl rfl) dX5_byteOf_239 ?_
    refine go_bipush hC dX5_byteOf_242 (v := (20 : Int32)) (by decide +kernel) ?_
    refine go_iload hC dX5_byteOf_244 4 rfl ?_
    refine go_imul hC dX5_byteOf_246 ?_
    refine go_iload hC dX5_byteOf_247 6 rfl ?_
    refine go_iadd hC dX5_byteOf_249 ?_
    obtain ⟨h24, h⟩ := os_1 h
    refine go_iald hC h24.1 h24.2 dX5_byteOf_250 ?_
    obtain ⟨h28, h⟩ := os_1 h
    obtain ⟨r25, M26, h27, h⟩ := os_c h
    refine go_callV (bytes := cX5_putTwo) (maxL := 2) (ret := none) (n := 1) (As := [.int (mV M18 b22 ((((20 : Int32) * v5) + v7)).toNatClampNeg)]) (st := []) hE (c_X5_putTwo K.2.1 h27) (by unfold okY; decide +kernel) rfl h28 rfl (C := RX5) (T := TX5) (N := 28) rfl m_722 m_719 m_720 m_721 m_5 rfl (by simp [Value.category]) (by decide) (by decide) dX5_byteOf_251 ?_
    refine go_eq (pc' := 254) (st' := []) (M' := M26) (lv' := [(0, .ref v0), (2, .int v2), (3, .int v3), (4, .int v4), (5, .int v5), (6, .int v6), (7, .int v7)]) ?_ rfl rfl rfl rfl
    exact tX5_byteOf_254 hE hrec152 _ _ _ _ _ _ _ _ h
def fX5_byteOf_152 (x9 : Cx) (k9 : Nat) : Nat → Nat → Int32 → Int32 → Int32 → Int32 → Int32 → Int32 → Mm → Option (Int32 × Mm)
  | 0, _, _, _, _, _, _, _, _ => none
  | n9 + 1, v0, v2, v3, v4, v5, v6, v7, M => if (20 : Int32) ≤ v7 then fX5_byteOf_260 x9 k9 v0 v2 v3 v5 M else if mK M v0 = 6 then ob1 (mP M v0 15) (fun b3 => if mK M b3 = 9 ∧ ¬ ((((20 : Int32) * v5) + v7) < 0 ∨ mN M b3 ≤ ((((20 : Int32) * v5) + v7)).toNatClampNeg) then if (mV M b3 ((((20 : Int32) * v5) + v7)).toNatClampNeg) = 0 then fX5_byteOf_254 x9 k9 (fX5_byteOf_152 x9 k9 n9) v0 v2 v3 v4 v5 v6 v7 M else if v3 = (1 : Int32) then if mK M v0 = 6 then if ¬ (mV M v0 0) = 0 then if (v7 - v7 / (mV M v0 0) * (mV M v0 0)) = v4 then fX5_byteOf_195 x9 k9 (fX5_byteOf_152 x9 k9 n9) v0 v2 v3 v4 v5 v6 v7 M else fX5_byteOf_254 x9 k9 (fX5_byteOf_152 x9 k9 n9) v0 v2 v3 v4 v5 v6 v7 M else none else none else fX5_byteOf_195 x9 k9 (fX5_byteOf_152 x9 k9 n9) v0 v2 v3 v4 v5 v6 v7 M else none) else none
set_option maxRecDepth 100000 in
set_option maxHeartbeats 4000000 in
theorem tX5_byteOf_152 {x9 : Cx} {K : Ct} {k9 : Nat} {M0 M9 : Mm} {r9 : Int32} (hE : Ce x9 K RX5 cX5_byteOf 8 (some .int) 3 64 "byteOf" M0) : ∀ (n9 : Nat) (v0 : Nat) (v2 : Int32) (v3 : Int32) (v4 : Int32) (v5 : Int32) (v6 : Int32) (v7 : Int32) (M : Mm), fX5_byteOf_152 x9 k9 n9 v0 v2 v3 v4 v5 v6 v7 M = some (r9, M9) → Go x9 K 8 (Qf x9 K M0 (some (.int r9)) M9) 152 [(0, .ref v0), (2, .int v2), (3, .int v3), (4, .int v4), (5, .int v5), (6, .int v6), (7, .int v7)] [] M := by
  have hC := hE.1
  have hnm := hE.2.2.2.2.2.2.2.1
  intro n9
  induction n9 with
  | zero => intro _ _ _ _ _ _ _ _ h; cases h
  | succ n9 ih =>
    intro v0 v2 v3 v4 v5 v6 v7 M h
    rw [fX5_byteOf_152] at h
    refine go_iload hC dX5_byteOf_152 6 rfl ?_
    refine go_bipush hC dX5_byteOf_154 (v := (20 : Int32)) (by decide +kernel) ?_
    refine go_icmp_ge (t := 260) hC dX5_byteOf_156 (by decide) (fun c1 => ?_) (fun c1 => ?_)
    · have h := os_t h c1
      refine go_sub (lv' := [(0, .ref v0), (2, .int v2), (3, .int v3), (5, .int v5)]) [0, 1, 2, 4] rfl ?_
      exact tX5_byteOf_260 hE _ _ _ _ _ h
    · have h := os_f h c1
      refine go_aload_n hC dX5_byteOf_159 rfl 0 rfl ?_
      obtain ⟨h2, h⟩ := os_1 h
      obtain ⟨b3, h4, h⟩ := os_b h
      refine go_getR 15 hC h2 rfl rfl h4 (C := RX5) (T := TX5) (N := 28) rfl inlX5 (by decide) m_89 (Or.inl rfl) dX5_byteOf_160 ?_
      refine go_bipush hC dX5_byteOf_163 (v := (20 : Int32)) (by decide +kernel) ?_
      refine go_iload hC dX5_byteOf_165 4 rfl ?_
      refine go_imul hC dX5_byteOf_167 ?_
      refine go_iload hC dX5_byteOf_168 6 rfl ?_
      refine go_iadd hC dX5_byteOf_170 ?_
      obtain ⟨h5, h⟩ := os_1 h
      refine go_zald hC h5.1 h5.2 dX5_byteOf_171 ?_
      refine go_if_eq (t := 254) hC dX5_byteOf_172 (by decide) (fun c6 => ?_) (fun c6 => ?_)
      · have h := os_t h c6
        exact tX5_byteOf_254 hE ih _ _ _ _ _ _ _ _ h
      · have h := os_f h c6
        refine go_iload_n hC dX5_byteOf_175 rfl 2 rfl ?_
        refine go_iconst hC dX5_byteOf_176 (v := (1 : Int32)) (by decide +kernel) ?_
        refine go_icmp_ne (t := 195) hC dX5_byteOf_177 (by decide) (fun c7 => ?_) (fun c7 => ?_)
        · have h := os_f h c7
          exact tX5_byteOf_195 hE ih _ _ _ _ _ _ _ _ h
        · have h := os_t h c7
          refine go_iload hC dX5_byteOf_180 6 rfl ?_
          refine go_aload_n hC dX5_byteOf_182 rfl 0 rfl ?_
          obtain ⟨h8, h⟩ := os_1 h
          refine go_getV 0 hC h8 rfl rfl (C := RX5) (T := TX5) (N := 28) rfl inlX5 (by decide) m_75 (Or.inl rfl) dX5_byteOf_183 ?_
          obtain ⟨h9, h⟩ := os_1 h
          refine go_irem hC dX5_byteOf_186 h9 ?_
          refine go_iload hC dX5_byteOf_187 3 rfl ?_
          refine go_icmp_eq (t := 195) hC dX5_byteOf_189 (by decide) (fun c10 => ?_) (fun c10 => ?_)
          · have h := os_t h c10
            exact tX5_byteOf_195 hE ih _ _ _ _ _ _ _ _ h
          · have h := os_f h c10
            refine go_goto (t := 254) hC dX5_byteOf_192 (by decide) ?_
            exact tX5_byteOf_254 hE ih _ _ _ _ _ _ _ _ h
def fX5_byteOf_138 (x9 : Cx) (k9 : Nat) (v0 : Nat) (v2 : Int32) (v3 : Int32) (v4 : Int32) (v5 : Int32) (M : Mm) : Option (Int32 × Mm) :=
  if mK M v0 = 6 then if mK M v0 = 6 then ob2 (fX5_put x9 k9 v0 (0 : Int32) M) (fun r2 M3 => fX5_byteOf_152 x9 k9 k9 v0 v2 v3 v4 v5 (mV M v0 26) (0 : Int32) M3) else none else none
set_option maxRecDepth 100000 in
set_option maxHeartbeats 4000000 in
theorem tX5_byteOf_138 {x9 : Cx} {K : Ct} {k9 : Nat} {M0 M9 : Mm} {r9 : Int32} (hE : Ce x9 K RX5 cX5_byteOf 8 (some .int) 3 64 "byteOf" M0) (v0 : Nat) (v2 : Int32) (v3 : Int32) (v4 : Int32) (v5 : Int32) (M : Mm) (h : fX5_byteOf_138 x9 k9 v0 v2 v3 v4 v5 M = some (r9, M9)) : Go x9 K 8 (Qf x9 K M0 (some (.int r9)) M9) 138 [(0, .ref v0), (2, .int v2), (3, .int v3), (4, .int v4), (5, .int v5)] [] M := by
  have hC := hE.1
  have hnm := hE.2.2.2.2.2.2.2.1
  unfold fX5_byteOf_138 at h
  refine go_aload_n hC dX5_byteOf_138 rfl 0 rfl ?_
  obtain ⟨h1, h⟩ := os_1 h
  refine go_getV 26 hC h1 rfl rfl (C := RX5) (T := TX5) (N := 28) rfl inlX5 (by decide) m_713 (Or.inl rfl) dX5_byteOf_139 ?_
  refine go_istore (lv' := [(6, .int (mV M v0 26)), (0, .ref v0), (2, .int v2), (3, .int v3), (4, .int v4), (5, .int v5)]) hC dX5_byteOf_142 (by decide) rfl ?_
  refine go_aload_n hC dX5_byteOf_144 rfl 1 rfl ?_
  refine go_iconst hC dX5_byteOf_145 (v := (0 : Int32)) (by decide +kernel) ?_
  obtain ⟨h5, h⟩ := os_1 h
  obtain ⟨r2, M3, h4, h⟩ := os_c h
  refine go_callV (bytes := cX5_put) (maxL := 2) (ret := none) (n := 1) (As := [.int (0 : Int32)]) (st := []) hE (c_X5_put K.2.1 h4) (by unfold okY; decide +kernel) rfl h5 rfl (C := RX5) (T := TX5) (N := 28) rfl m_718 m_715 m_716 m_717 m_5 rfl (by simp [Value.category]) (by decide) (by decide) dX5_byteOf_146 ?_
  refine go_eq (pc' := 149) (st' := []) (M' := M3) (lv' := [(6, .int (mV M v0 26)), (0, .ref v0), (2, .int v2), (3, .int v3), (4, .int v4), (5, .int v5)]) ?_ rfl rfl rfl rfl
  refine go_iconst hC dX5_byteOf_149 (v := (0 : Int32)) (by decide +kernel) ?_
  refine go_istore (lv' := [(7, .int (0 : Int32)), (6, .int (mV M v0 26)), (0, .ref v0), (2, .int v2), (3, .int v3), (4, .int v4), (5, .int v5)]) hC dX5_byteOf_150 (by decide) rfl ?_
  refine go_sub (lv' := [(0, .ref v0), (2, .int v2), (3, .int v3), (4, .int v4), (5, .int v5), (6, .int (mV M v0 26)), (7, .int (0 : Int32))]) [2, 3, 4, 5, 6, 1, 0] rfl ?_
  exact tX5_byteOf_152 hE k9 _ _ _ _ _ _ _ _ h
def fX5_byteOf_128 (x9 : Cx) (k9 : Nat) (v0 : Nat) (v2 : Int32) (v3 : Int32) (v4 : Int32) (v5 : Int32) (M : Mm) : Option (Int32 × Mm) :=
  if v3 = (1 : Int32) then fX5_byteOf_138 x9 k9 v0 v2 v3 v4 v5 M else if v3 = (5 : Int32) then fX5_byteOf_138 x9 k9 v0 v2 v3 v4 v5 M else fX5_byteOf_260 x9 k9 v0 v2 v3 v5 M
set_option maxRecDepth 100000 in
set_option maxHeartbeats 4000000 in
theorem tX5_byteOf_128 {x9 : Cx} {K : Ct} {k9 : Nat} {M0 M9 : Mm} {r9 : Int32} (hE : Ce x9 K RX5 cX5_byteOf 8 (some .int) 3 64 "byteOf" M0) (v0 : Nat) (v2 : Int32) (v3 : Int32) (v4 : Int32) (v5 : Int32) (M : Mm) (h : fX5_byteOf_128 x9 k9 v0 v2 v3 v4 v5 M = some (r9, M9)) : Go x9 K 8 (Qf x9 K M0 (some (.int r9)) M9) 128 [(0, .ref v0), (2, .int v2), (3, .int v3), (4, .int v4), (5, .int v5)] [] M := by
  have hC := hE.1
  have hnm := hE.2.2.2.2.2.2.2.1
  unfold fX5_byteOf_128 at h
  refine go_iload_n hC dX5_byteOf_128 rfl 2 rfl ?_
  refine go_iconst hC dX5_byteOf_129 (v := (1 : Int32)) (by decide +kernel) ?_
  refine go_icmp_eq (t := 138) hC dX5_byteOf_130 (by decide) (fun c1 => ?_) (fun c1 => ?_)
  · have h := os_t h c1
    exact tX5_byteOf_138 hE _ _ _ _ _ _ h
  · have h := os_f h c1
    refine go_iload_n hC dX5_byteOf_133 rfl 2 rfl ?_
    refine go_iconst hC dX5_byteOf_134 (v := (5 : Int32)) (by decide +kernel) ?_
    refine go_icmp_ne (t := 260) hC dX5_byteOf_135 (by decide) (fun c2 => ?_) (fun c2 => ?_)
    · have h := os_f h c2
      refine go_sub (lv' := [(0, .ref v0), (2, .int v2), (3, .int v3), (5, .int v5)]) [0, 1, 2, 4] rfl ?_
      exact tX5_byteOf_260 hE _ _ _ _ _ h
    · have h := os_t h c2
      exact tX5_byteOf_138 hE _ _ _ _ _ _ h
def fX5_byteOf_112 (x9 : Cx) (k9 : Nat) (v0 : Nat) (v2 : Int32) (v3 : Int32) (v4 : Int32) (v5 : Int32) (M : Mm) : Option (Int32 × Mm) :=
  if v3 = (5 : Int32) then if mK M v0 = 6 then ob1 (mP M v0 8) (fun b3 => if mK M b3 = 8 ∧ ¬ (v5 < 0 ∨ mN M b3 ≤ (v5).toNatClampNeg) then if mK M v0 = 6 then ob2 (fX5_putTwo x9 k9 v0 (mV M b3 (v5).toNatClampNeg) M) (fun r6 M7 => fX5_byteOf_128 x9 k9 v0 v2 v3 v4 v5 M7) else none else none) else none else fX5_byteOf_128 x9 k9 v0 v2 v3 v4 v5 M
set_option maxRecDepth 100000 in
set_option maxHeartbeats 4000000 in
theorem tX5_byteOf_112 {x9 : Cx} {K : Ct} {k9 : Nat} {M0 M9 : Mm} {r9 : Int32} (hE : Ce x9 K RX5 cX5_byteOf 8 (some .int) 3 64 "byteOf" M0) (v0 : Nat) (v2 : Int32) (v3 : Int32) (v4 : Int32) (v5 : Int32) (M : Mm) (h : fX5_byteOf_112 x9 k9 v0 v2 v3 v4 v5 M = some (r9, M9)) : Go x9 K 8 (Qf x9 K M0 (some (.int r9)) M9) 112 [(0, .ref v0), (2, .int v2), (3, .int v3), (4, .int v4), (5, .int v5)] [] M := by
  have hC := hE.1
  have hnm := hE.2.2.2.2.2.2.2.1
  unfold fX5_byteOf_112 at h
  refine go_iload_n hC dX5_byteOf_112 rfl 2 rfl ?_
  refine go_iconst hC dX5_byteOf_113 (v := (5 : Int32)) (by decide +kernel) ?_
  refine go_icmp_ne (t := 128) hC dX5_byteOf_114 (by decide) (fun c1 => ?_) (fun c1 => ?_)
  · have h := os_f h c1
    exact tX5_byteOf_128 hE _ _ _ _ _ _ h
  · have h := os_t h c1
    refine go_aload_n hC dX5_byteOf_117 rfl 0 rfl ?_
    refine go_aload_n hC dX5_byteOf_118 rfl 0 rfl ?_
    obtain ⟨h2, h⟩ := os_1 h
    obtain ⟨b3, h4, h⟩ := os_b h
    refine go_getR 8 hC h2 rfl rfl h4 (C := RX5) (T := TX5) (N := 28) rfl inlX5 (by decide) m_82 (Or.inl rfl) dX5_byteOf_119 ?_
    refine go_iload hC dX5_byteOf_122 4 rfl ?_
    obtain ⟨h5, h⟩ := os_1 h
    refine go_iald hC h5.1 h5.2 dX5_byteOf_124 ?_
    obtain ⟨h9, h⟩ := os_1 h
    obtain ⟨r6, M7, h8, h⟩ := os_c h
    refine go_callV (bytes := cX5_putTwo) (maxL := 2) (ret := none) (n := 1) (As := [.int (mV M b3 (v5).toNatClampNeg)]) (st := []) hE (c_X5_putTwo K.2.1 h8) (by unfold okY; decide +kernel) rfl h9 rfl (C := RX5) (T := TX5) (N := 28) rfl m_722 m_719 m_720 m_721 m_5 rfl (by simp [Value.category]) (by decide) (by decide) dX5_byteOf_125 ?_
    refine go_eq (pc' := 128) (st' := []) (M' := M7) (lv' := [(0, .ref v0), (2, .int v2), (3, .int v3), (4, .int v4), (5, .int v5)]) ?_ rfl rfl rfl rfl
    exact tX5_byteOf_128 hE _ _ _ _ _ _ h
def fX5_byteOf_106 (x9 : Cx) (k9 : Nat) (v0 : Nat) (v2 : Int32) (v3 : Int32) (v4 : Int32) (v5 : Int32) (M : Mm) : Option (Int32 × Mm) :=
  if mK M v0 = 6 then ob2 (fX5_putStart x9 k9 v0 v5 M) (fun r1 M2 => fX5_byteOf_112 x9 k9 v0 v2 v3 v4 v5 M2) else none
set_option maxRecDepth 100000 in
set_option maxHeartbeats 4000000 in
theorem tX5_byteOf_106 {x9 : Cx} {K : Ct} {k9 : Nat} {M0 M9 : Mm} {r9 : Int32} (hE : Ce x9 K RX5 cX5_byteOf 8 (some .int) 3 64 "byteOf" M0) (v0 : Nat) (v2 : Int32) (v3 : Int32) (v4 : Int32) (v5 : Int32) (M : Mm) (h : fX5_byteOf_106 x9 k9 v0 v2 v3 v4 v5 M = some (r9, M9)) : Go x9 K 8 (Qf x9 K M0 (some (.int r9)) M9) 106 [(0, .ref v0), (2, .int v2), (3, .int v3), (4, .int v4), (5, .int v5)] [] M := by
  have hC := hE.1
  have hnm := hE.2.2.2.2.2.2.2.1
  unfold fX5_byteOf_106 at h
  refine go_aload_n hC dX5_byteOf_106 rfl 0 rfl ?_
  refine go_iload hC dX5_byteOf_107 4 rfl ?_
  obtain ⟨h4, h⟩ := os_1 h
  obtain ⟨r1, M2, h3, h⟩ := os_c h
  refine go_callV (bytes := cX5_putStart) (maxL := 3) (ret := none) (n := 1) (As := [.int v5]) (st := []) hE (c_X5_putStart K.2.1 h3) (by unfold okY; decide +kernel) rfl h4 rfl (C := RX5) (T := TX5) (N := 28) rfl m_726 m_723 m_724 m_725 m_5 rfl (by simp [Value.category]) (by decide) (by decide) dX5_byteOf_109 ?_
  refine go_eq (pc' := 112) (st' := []) (M' := M2) (lv' := [(0, .ref v0), (2, .int v2), (3, .int v3), (4, .int v4), (5, .int v5)]) ?_ rfl rfl rfl rfl
  exact tX5_byteOf_112 hE _ _ _ _ _ _ h
def fX5_byteOf_18 (x9 : Cx) (k9 : Nat) (v0 : Nat) (v1 : Int32) (v2 : Int32) (s0 : Nat) (s1 : Int32) (M : Mm) : Option (Int32 × Mm) :=
  if mK M s0 = 6 then ob2 (fX5_fails x9 k9 s0 s1 (1 : Int32) M) (fun r1 M2 => if r1 = 0 then if mK M2 v0 = 6 then ob1 (mP M2 v0 22) (fun b7 => if mK M2 b7 = 8 ∧ ¬ (((4 : Int32) * v1) < 0 ∨ mN M2 b7 ≤ (((4 : Int32) * v1)).toNatClampNeg) then if mK M2 v0 = 6 then ob1 (mP M2 v0 22) (fun b11 => if mK M2 b11 = 8 ∧ ¬ ((((4 : Int32) * v1) + (2 : Int32)) < 0 ∨ mN M2 b11 ≤ ((((4 : Int32) * v1) + (2 : Int32))).toNatClampNeg) then if mK M2 v0 = 6 then ob1 (mP M2 v0 22) (fun b15 => if mK M2 b15 = 8 ∧ ¬ ((((4 : Int32) * v1) + (3 : Int32)) < 0 ∨ mN M2 b15 ≤ ((((4 : Int32) * v1) + (3 : Int32))).toNatClampNeg) then if mK M2 v0 = 6 then if mK (sV M2 v0 26 (0 : Int32)) v0 = 6 then ob2 (fX5_put x9 k9 v0 (mV M2 b7 (((4 : Int32) * v1)).toNatClampNeg) (sV M2 v0 26 (0 : Int32))) (fun r19 M20 => if mK M20 v0 = 6 then ob1 (mP M20 v0 22) (fun b24 => if mK M20 b24 = 8 ∧ ¬ ((((4 : Int32) * v1) + (1 : Int32)) < 0 ∨ mN M20 b24 ≤ ((((4 : Int32) * v1) + (1 : Int32))).toNatClampNeg) then if mK M20 v0 = 6 then ob2 (fX5_put x9 k9 v0 (mV M20 b24 ((((4 : Int32) * v1) + (1 : Int32))).toNatClampNeg) M20) (fun r27 M28 => if mK M28 v0 = 6 then ob2 (fX5_put x9 k9 v0 (mV M2 b11 ((((4 : Int32) * v1) + (2 : Int32))).toNatClampNeg) M28) (fun r31 M32 => if mK M32 v0 = 6 then ob2 (fX5_putTwo x9 k9 v0 (mV M2 b15 ((((4 : Int32) * v1) + (3 : Int32))).toNatClampNeg) M32) (fun r35 M36 => if (mV M2 b7 (((4 : Int32) * v1)).toNatClampNeg) = (1 : Int32) then fX5_byteOf_106 x9 k9 v0 v2 (mV M2 b7 (((4 : Int32) * v1)).toNatClampNeg) (mV M2 b11 ((((4 : Int32) * v1) + (2 : Int32))).toNatClampNeg) (mV M2 b15 ((((4 : Int32) * v1) + (3 : Int32))).toNatClampNeg) M36 else if (mV M2 b7 (((4 : Int32) * v1)).toNatClampNeg) = (5 : Int32) then fX5_byteOf_106 x9 k9 v0 v2 (mV M2 b7 (((4 : Int32) * v1)).toNatClampNeg) (mV M2 b11 ((((4 : Int32) * v1) + (2 : Int32))).toNatClampNeg) (mV M2 b15 ((((4 : Int32) * v1) + (3 : Int32))).toNatClampNeg) M36 else fX5_byteOf_112 x9 k9 v0 v2 (mV M2 b7 (((4 : Int32) * v1)).toNatClampNeg) (mV M2 b11 ((((4 : Int32) * v1) + (2 : Int32))).toNatClampNeg) (mV M2 b15 ((((4 : Int32) * v1) + (3 : Int32))).toNatClampNeg) M36) else none) else none) else none else none) else none) else none else none else none) else none else none) else none else none) else none else some ((0 : Int32), M2)) else none
set_option maxRecDepth 100000 in
set_option maxHeartbeats 4000000 in
theorem tX5_byteOf_18 {x9 : Cx} {K : Ct} {k9 : Nat} {M0 M9 : Mm} {r9 : Int32} (hE : Ce x9 K RX5 cX5_byteOf 8 (some .int) 3 64 "byteOf" M0) (v0 : Nat) (v1 : Int32) (v2 : Int32) (s0 : Nat) (s1 : Int32) (M : Mm) (h : fX5_byteOf_18 x9 k9 v0 v1 v2 s0 s1 M = some (r9, M9)) : Go x9 K 8 (Qf x9 K M0 (some (.int r9)) M9) 18 [(0, .ref v0), (1, .int v1), (2, .int v2)] [.int s1, .ref s0] M := by
  have hC := hE.1
  have hnm := hE.2.2.2.2.2.2.2.1
  unfold fX5_byteOf_18 at h
  refine go_iconst hC dX5_byteOf_18 (v := (1 : Int32)) (by decide +kernel) ?_
  obtain ⟨h4, h⟩ := os_1 h
  obtain ⟨r1, M2, h3, h⟩ := os_c h
  refine go_callV (bytes := cX5_fails) (maxL := 3) (ret := (some .boolean)) (n := 2) (As := [.int s1, .int (1 : Int32)]) (st := []) hE (c_X5_fails K.2.1 h3) (by unfold okY; decide +kernel) rfl h4 rfl (C := RX5) (T := TX5) (N := 28) rfl m_127 m_124 m_125 m_126 m_5 rfl (by simp [Value.category]) (by decide) (by decide) dX5_byteOf_19 ?_
  refine go_eq (pc' := 22) (st' := [.int r1]) (M' := M2) (lv' := [(0, .ref v0), (1, .int v1), (2, .int v2)]) ?_ rfl rfl rfl rfl
  refine go_if_eq (t := 27) hC dX5_byteOf_22 (by decide) (fun c5 => ?_) (fun c5 => ?_)
  · have h := os_t h c5
    refine go_aload_n hC dX5_byteOf_27 rfl 0 rfl ?_
    obtain ⟨h6, h⟩ := os_1 h
    obtain ⟨b7, h8, h⟩ := os_b h
    refine go_getR 22 hC h6 rfl rfl h8 (C := RX5) (T := TX5) (N := 28) rfl inlX5 (by decide) m_96 (Or.inl rfl) dX5_byteOf_28 ?_
    refine go_iconst hC dX5_byteOf_31 (v := (4 : Int32)) (by decide +kernel) ?_
    refine go_iload_n hC dX5_byteOf_32 rfl 1 rfl ?_
    refine go_imul hC dX5_byteOf_33 ?_
    obtain ⟨h9, h⟩ := os_1 h
    refine go_iald hC h9.1 h9.2 dX5_byteOf_34 ?_
    refine go_istore_n (lv' := [(3, .int (mV M2 b7 (((4 : Int32) * v1)).toNatClampNeg)), (0, .ref v0), (1, .int v1), (2, .int v2)]) hC dX5_byteOf_35 rfl (by decide) rfl ?_
    refine go_aload_n hC dX5_byteOf_36 rfl 1 rfl ?_
    obtain ⟨h10, h⟩ := os_1 h
    obtain ⟨b11, h12, h⟩ := os_b h
    refine go_getR 22 hC h10 rfl rfl h12 (C := RX5) (T := TX5) (N := 28) rfl inlX5 (by decide) m_96 (Or.inl rfl) dX5_byteOf_37 ?_
    refine go_iconst hC dX5_byteOf_40 (v := (4 : Int32)) (by decide +kernel) ?_
    refine go_iload_n hC dX5_byteOf_41 rfl 2 rfl ?_
    refine go_imul hC dX5_byteOf_42 ?_
    refine go_iconst hC dX5_byteOf_43 (v := (2 : Int32)) (by decide +kernel) ?_
    refine go_iadd hC dX5_byteOf_44 ?_
    obtain ⟨h13, h⟩ := os_1 h
    refine go_iald hC h13.1 h13.2 dX5_byteOf_45 ?_
    refine go_istore (lv' := [(4, .int (mV M2 b11 ((((4 : Int32) * v1) + (2 : Int32))).toNatClampNeg)), (3, .int (mV M2 b7 (((4 : Int32) * v1)).toNatClampNeg)), (0, .ref v0), (1, .int v1), (2, .int v2)]) hC dX5_byteOf_46 (by decide) rfl ?_
    refine go_aload_n hC dX5_byteOf_48 rfl 2 rfl ?_
    obtain ⟨h14, h⟩ := os_1 h
    obtain ⟨b15, h16, h⟩ := os_b h
    refine go_getR 22 hC h14 rfl rfl h16 (C := RX5) (T := TX5) (N := 28) rfl inlX5 (by decide) m_96 (Or.inl rfl) dX5_byteOf_49 ?_
    refine go_iconst hC dX5_byteOf_52 (v := (4 : Int32)) (by decide +kernel) ?_
    refine go_iload_n hC dX5_byteOf_53 rfl 3 rfl ?_
    refine go_imul hC dX5_byteOf_54 ?_
    refine go_iconst hC dX5_byteOf_55 (v := (3 : Int32)) (by decide +kernel) ?_
    refine go_iadd hC dX5_byteOf_56 ?_
    obtain ⟨h17, h⟩ := os_1 h
    refine go_iald hC h17.1 h17.2 dX5_byteOf_57 ?_
    refine go_istore (lv' := [(5, .int (mV M2 b15 ((((4 : Int32) * v1) + (3 : Int32))).toNatClampNeg)), (4, .int (mV M2 b11 ((((4 : Int32) * v1) + (2 : Int32))).toNatClampNeg)), (3, .int (mV M2 b7 (((4 : Int32) * v1)).toNatClampNeg)), (0, .ref v0), (1, .int v1), (2, .int v2)]) hC dX5_byteOf_58 (by decide) rfl ?_
    refine go_aload_n hC dX5_byteOf_60 rfl 3 rfl ?_
    refine go_iconst hC dX5_byteOf_61 (v := (0 : Int32)) (by decide +kernel) ?_
    obtain ⟨h18, h⟩ := os_1 h
    refine go_putV 26 hC h18 rfl rfl (C := RX5) (T := TX5) (N := 28) rfl inlX5 tyX5 tyX5_ok nmX5 (by decide) m_713 (Or.inl rfl) (Or.inl rfl) (tyX5_ok 26 (by decide)) rfl rfl dX5_byteOf_62 ?_
    refine go_aload_n hC dX5_byteOf_65 rfl 3 rfl ?_
    refine go_iload_n hC dX5_byteOf_66 rfl 2 rfl ?_
    obtain ⟨h22, h⟩ := os_1 h
    obtain ⟨r19, M20, h21, h⟩ := os_c h
    refine go_callV (bytes := cX5_put) (maxL := 2) (ret := none) (n := 1) (As := [.int (mV M2 b7 (((4 : Int32) * v1)).toNatClampNeg)]) (st := []) hE (c_X5_put K.2.1 h21) (by unfold okY; decide +kernel) rfl h22 rfl (C := RX5) (T := TX5) (N := 28) rfl m_718 m_715 m_716 m_717 m_5 rfl (by simp [Value.category]) (by decide) (by decide) dX5_byteOf_67 ?_
    refine go_eq (pc' := 70) (st' := []) (M' := M20) (lv' := [(5, .int (mV M2 b15 ((((4 : Int32) * v1) + (3 : Int32))).toNatClampNeg)), (4, .int (mV M2 b11 ((((4 : Int32) * v1) + (2 : Int32))).toNatClampNeg)), (3, .int (mV M2 b7 (((4 : Int32) * v1)).toNatClampNeg)), (0, .ref v0), (1, .int v1), (2, .int v2)]) ?_ rfl rfl rfl rfl
    refine go_aload_n hC dX5_byteOf_70 rfl 3 rfl ?_
    refine go_aload_n hC dX5_byteOf_71 rfl 3 rfl ?_
    obtain ⟨h23, h⟩ := os_1 h
    obtain ⟨b24, h25, h⟩ := os_b h
    refine go_getR 22 hC h23 rfl rfl h25 (C := RX5) (T := TX5) (N := 28) rfl inlX5 (by decide) m_96 (Or.inl rfl) dX5_byteOf_72 ?_
    refine go_iconst hC dX5_byteOf_75 (v := (4 : Int32)) (by decide +kernel) ?_
    refine go_iload_n hC dX5_byteOf_76 rfl 4 rfl ?_
    refine go_imul hC dX5_byteOf_77 ?_
    refine go_iconst hC dX5_byteOf_78 (v := (1 : Int32)) (by decide +kernel) ?_
    refine go_iadd hC dX5_byteOf_79 ?_
    obtain ⟨h26, h⟩ := os_1 h
    refine go_iald hC h26.1 h26.2 dX5_byteOf_80 ?_
    obtain ⟨h30, h⟩ := os_1 h
    obtain ⟨r27, M28, h29, h⟩ := os_c h
    refine go_callV (bytes := cX5_put) (maxL := 2) (ret := none) (n := 1) (As := [.int (mV M20 b24 ((((4 : Int32) * v1) + (1 : Int32))).toNatClampNeg)]) (st := []) hE (c_X5_put K.2.1 h29) (by unfold okY; decide +kernel) rfl h30 rfl (C := RX5) (T := TX5) (N := 28) rfl m_718 m_715 m_716 m_717 m_5 rfl (by simp [Value.category]) (by decide) (by decide) dX5_byteOf_81 ?_
    refine go_eq (pc' := 84) (st' := []) (M' := M28) (lv' := [(5, .int (mV M2 b15 ((((4 : Int32) * v1) + (3 : Int32))).toNatClampNeg)), (4, .int (mV M2 b11 ((((4 : Int32) * v1) + (2 : Int32))).toNatClampNeg)), (3, .int (mV M2 b7 (((4 : Int32) * v1)).toNatClampNeg)), (0, .ref v0), (1, .int v1), (2, .int v2)]) ?_ rfl rfl rfl rfl
    refine go_aload_n hC dX5_byteOf_84 rfl 3 rfl ?_
    refine go_iload hC dX5_byteOf_85 1 rfl ?_
    obtain ⟨h34, h⟩ := os_1 h
    obtain ⟨r31, M32, h33, h⟩ := os_c h
    refine go_callV (bytes := cX5_put) (maxL := 2) (ret := none) (n := 1) (As := [.int (mV M2 b11 ((((4 : Int32) * v1) + (2 : Int32))).toNatClampNeg)]) (st := []) hE (c_X5_put K.2.1 h33) (by unfold okY; decide +kernel) rfl h34 rfl (C := RX5) (T := TX5) (N := 28) rfl m_718 m_715 m_716 m_717 m_5 rfl (by simp [Value.category]) (by decide) (by decide) dX5_byteOf_87 ?_
    refine go_eq (pc' := 90) (st' := []) (M' := M32) (lv' := [(5, .int (mV M2 b15 ((((4 : Int32) * v1) + (3 : Int32))).toNatClampNeg)), (4, .int (mV M2 b11 ((((4 : Int32) * v1) + (2 : Int32))).toNatClampNeg)), (3, .int (mV M2 b7 (((4 : Int32) * v1)).toNatClampNeg)), (0, .ref v0), (1, .int v1), (2, .int v2)]) ?_ rfl rfl rfl rfl
    refine go_aload_n hC dX5_byteOf_90 rfl 3 rfl ?_
    refine go_iload hC dX5_byteOf_91 0 rfl ?_
    obtain ⟨h38, h⟩ := os_1 h
    obtain ⟨r35, M36, h37, h⟩ := os_c h
    refine go_callV (bytes := cX5_putTwo) (maxL := 2) (ret := none) (n := 1) (As := [.int (mV M2 b15 ((((4 : Int32) * v1) + (3 : Int32))).toNatClampNeg)]) (st := []) hE (c_X5_putTwo K.2.1 h37) (by unfold okY; decide +kernel) rfl h38 rfl (C := RX5) (T := TX5) (N := 28) rfl m_722 m_719 m_720 m_721 m_5 rfl (by simp [Value.category]) (by decide) (by decide) dX5_byteOf_93 ?_
    refine go_eq (pc' := 96) (st' := []) (M' := M36) (lv' := [(5, .int (mV M2 b15 ((((4 : Int32) * v1) + (3 : Int32))).toNatClampNeg)), (4, .int (mV M2 b11 ((((4 : Int32) * v1) + (2 : Int32))).toNatClampNeg)), (3, .int (mV M2 b7 (((4 : Int32) * v1)).toNatClampNeg)), (0, .ref v0), (1, .int v1), (2, .int v2)]) ?_ rfl rfl rfl rfl
    refine go_iload_n hC dX5_byteOf_96 rfl 2 rfl ?_
    refine go_iconst hC dX5_byteOf_97 (v := (1 : Int32)) (by decide +kernel) ?_
    refine go_icmp_eq (t := 106) hC dX5_byteOf_98 (by decide) (fun c39 => ?_) (fun c39 => ?_)
    · have h := os_t h c39
      refine go_sub (lv' := [(0, .ref v0), (2, .int v2), (3, .int (mV M2 b7 (((4 : Int32) * v1)).toNatClampNeg)), (4, .int (mV M2 b11 ((((4 : Int32) * v1) + (2 : Int32))).toNatClampNeg)), (5, .int (mV M2 b15 ((((4 : Int32) * v1) + (3 : Int32))).toNatClampNeg))]) [3, 5, 2, 1, 0] rfl ?_
      exact tX5_byteOf_106 hE _ _ _ _ _ _ h
    · have h := os_f h c39
      refine go_iload_n hC dX5_byteOf_101 rfl 2 rfl ?_
      refine go_iconst hC dX5_byteOf_102 (v := (5 : Int32)) (by decide +kernel) ?_
      refine go_icmp_ne (t := 112) hC dX5_byteOf_103 (by decide) (fun c40 => ?_) (fun c40 => ?_)
      · have h := os_f h c40
        refine go_sub (lv' := [(0, .ref v0), (2, .int v2), (3, .int (mV M2 b7 (((4 : Int32) * v1)).toNatClampNeg)), (4, .int (mV M2 b11 ((((4 : Int32) * v1) + (2 : Int32))).toNatClampNeg)), (5, .int (mV M2 b15 ((((4 : Int32) * v1) + (3 : Int32))).toNatClampNeg))]) [3, 5, 2, 1, 0] rfl ?_
        exact tX5_byteOf_112 hE _ _ _ _ _ _ h
      · have h := os_t h c40
        refine go_sub (lv' := [(0, .ref v0), (2, .int v2), (3, .int (mV M2 b7 (((4 : Int32) * v1)).toNatClampNeg)), (4, .int (mV M2 b11 ((((4 : Int32) * v1) + (2 : Int32))).toNatClampNeg)), (5, .int (mV M2 b15 ((((4 : Int32) * v1) + (3 : Int32))).toNatClampNeg))]) [3, 5, 2, 1, 0] rfl ?_
        exact tX5_byteOf_106 hE _ _ _ _ _ _ h
  · have h := os_f h c5
    refine go_iconst hC dX5_byteOf_25 (v := (0 : Int32)) (by decide +kernel) ?_
    cases h
    exact go_iret hE dX5_byteOf_26
def fX5_byteOf_13 (x9 : Cx) (k9 : Nat) (v0 : Nat) (v1 : Int32) (v2 : Int32) (s0 : Nat) (M : Mm) : Option (Int32 × Mm) :=
  fX5_byteOf_18 x9 k9 v0 v1 v2 s0 (1 : Int32) M
set_option maxRecDepth 100000 in
set_option maxHeartbeats 4000000 in
theorem tX5_byteOf_13 {x9 : Cx} {K : Ct} {k9 : Nat} {M0 M9 : Mm} {r9 : Int32} (hE : Ce x9 K RX5 cX5_byteOf 8 (some .int) 3 64 "byteOf" M0) (v0 : Nat) (v1 : Int32) (v2 : Int32) (s0 : Nat) (M : Mm) (h : fX5_byteOf_13 x9 k9 v0 v1 v2 s0 M = some (r9, M9)) : Go x9 K 8 (Qf x9 K M0 (some (.int r9)) M9) 13 [(0, .ref v0), (1, .int v1), (2, .int v2)] [.ref s0] M := by
  have hC := hE.1
  have hnm := hE.2.2.2.2.2.2.2.1
  unfold fX5_byteOf_13 at h
  refine go_iconst hC dX5_byteOf_13 (v := (1 : Int32)) (by decide +kernel) ?_
  refine go_goto (t := 18) hC dX5_byteOf_14 (by decide) ?_
  exact tX5_byteOf_18 hE _ _ _ _ _ _ h
def fX5_byteOf (x9 : Cx) (k9 : Nat) (v0 : Nat) (v1 : Int32) (v2 : Int32) (M : Mm) : Option (Int32 × Mm) :=
  if v1 < 0 then fX5_byteOf_13 x9 k9 v0 v1 v2 v0 M else if mK M v0 = 6 then if v1 < (mV M v0 23) then fX5_byteOf_18 x9 k9 v0 v1 v2 v0 (0 : Int32) M else fX5_byteOf_13 x9 k9 v0 v1 v2 v0 M else none
set_option maxRecDepth 100000 in
set_option maxHeartbeats 4000000 in
theorem tX5_byteOf_0 {x9 : Cx} {K : Ct} {k9 : Nat} {M0 M9 : Mm} {r9 : Int32} (hE : Ce x9 K RX5 cX5_byteOf 8 (some .int) 3 64 "byteOf" M0) (v0 : Nat) (v1 : Int32) (v2 : Int32) (M : Mm) (h : fX5_byteOf x9 k9 v0 v1 v2 M = some (r9, M9)) : Go x9 K 8 (Qf x9 K M0 (some (.int r9)) M9) 0 [(0, .ref v0), (1, .int v1), (2, .int v2)] [] M := by
  have hC := hE.1
  have hnm := hE.2.2.2.2.2.2.2.1
  unfold fX5_byteOf at h
  refine go_aload_n hC dX5_byteOf_0 rfl 0 rfl ?_
  refine go_iload_n hC dX5_byteOf_1 rfl 1 rfl ?_
  refine go_if_lt (t := 13) hC dX5_byteOf_2 (by decide) (fun c1 => ?_) (fun c1 => ?_)
  · have h := os_t h c1
    exact tX5_byteOf_13 hE _ _ _ _ _ h
  · have h := os_f h c1
    refine go_iload_n hC dX5_byteOf_5 rfl 1 rfl ?_
    refine go_aload_n hC dX5_byteOf_6 rfl 0 rfl ?_
    obtain ⟨h2, h⟩ := os_1 h
    refine go_getV 23 hC h2 rfl rfl (C := RX5) (T := TX5) (N := 28) rfl inlX5 (by decide) m_104 (Or.inl rfl) dX5_byteOf_7 ?_
    refine go_icmp_lt (t := 17) hC dX5_byteOf_10 (by decide) (fun c3 => ?_) (fun c3 => ?_)
    · have h := os_t h c3
      refine go_iconst hC dX5_byteOf_17 (v := (0 : Int32)) (by decide +kernel) ?_
      exact tX5_byteOf_18 hE _ _ _ _ _ _ h
    · have h := os_f h c3
      exact tX5_byteOf_13 hE _ _ _ _ _ h
theorem c_X5_byteOf (l : Launch) {x9 : Cx} {k9 : Nat} {M M9 : Mm} {r9 : Int32} {v0 : Nat} {v1 : Int32} {v2 : Int32} (h : fX5_byteOf x9 k9 v0 v1 v2 M = some (r9, M9)) : Fn l x9 yX5_byteOf cX5_byteOf 8 (some .int) 3 64 [.ref v0, .int v1, .int v2] M (some (.int r9)) M9 :=
  Fn.of (by decide +kernel) (Nat.le_of_ble_eq_true rfl) rfl (fun K _ hE => tX5_byteOf_0 hE _ _ _ _ h)
/-! X5_crash -/
def fX5_crash_35 (x9 : Cx) (k9 : Nat) (M : Mm) : Option (Unit × Mm) :=
  some ((), M)
set_option maxRecDepth 100000 in
set_option maxHeartbeats 4000000 in
theorem tX5_crash_35 {x9 : Cx} {K : Ct} {k9 : Nat} {M0 M9 : Mm} {r9 : Unit} (hE : Ce x9 K RX5 cX5_crash 3 none 1 22 "crash" M0) (M : Mm) (h : fX5_crash_35 x9 k9 M = some (r9, M9)) : Go x9 K 3 (Qf x9 K M0 none M9) 35 [] [] M := by
  have hC := hE.1
  have hnm := hE.2.2.2.2.2.2.2.1
  unfold fX5_crash_35 at h
  cases h
  exact go_vret hE dX5_crash_35
def fX5_crash_115 (x9 : Cx) (k9 : Nat) (rec45 : Nat → Int32 → Int32 → Mm → Option (Unit × Mm)) (v0 : Nat) (v1 : Int32) (v2 : Int32) (M : Mm) : Option (Unit × Mm) :=
  rec45 v0 v1 (v2 + 1) M
set_option maxRecDepth 100000 in
set_option maxHeartbeats 4000000 in
theorem tX5_crash_115 {x9 : Cx} {K : Ct} {k9 : Nat} {M0 M9 : Mm} {r9 : Unit} (hE : Ce x9 K RX5 cX5_crash 3 none 1 22 "crash" M0) {rec45 : Nat → Int32 → Int32 → Mm → Option (Unit × Mm)} (hrec45 : ∀ (v0 : Nat) (v1 : Int32) (v2 : Int32) (M : Mm), rec45 v0 v1 v2 M = some (r9, M9) → Go x9 K 3 (Qf x9 K M0 none M9) 45 [(0, .ref v0), (1, .int v1), (2, .int v2)] [] M) (v0 : Nat) (v1 : Int32) (v2 : Int32) (M : Mm) (h : fX5_crash_115 x9 k9 rec45 v0 v1 v2 M = some (r9, M9)) : Go x9 K 3 (Qf x9 K M0 none M9) 115 [(0, .ref v0), (1, .int v1), (2, .int v2)] [] M := by
  have hC := hE.1
  have hnm := hE.2.2.2.2.2.2.2.1
  unfold fX5_crash_115 at h
  refine go_iinc (q := 2) (v := (v2 + 1)) (lv' := [(2, .int (v2 + 1)), (0, .ref v0), (1, .int v1)]) hC dX5_crash_115 rfl rfl (by decide) rfl ?_
  refine go_goto (t := 45) hC dX5_crash_118 (by decide) ?_
  refine go_sub (lv' := [(0, .ref v0), (1, .int v1), (2, .int (v2 + 1))]) [1, 2, 0] rfl ?_
  exact hrec45 _ _ _ _ h
def fX5_crash_107 (x9 : Cx) (k9 : Nat) (rec45 : Nat → Int32 → Int32 → Mm → Option (Unit × Mm)) (v0 : Nat) (v1 : Int32) (v2 : Int32) (s0 : Nat) (s1 : Int32) (s2 : Int32) (M : Mm) : Option (Unit × Mm) :=
  if mK M s0 = 9 ∧ ¬ (s1 < 0 ∨ mN M s0 ≤ (s1).toNatClampNeg) then if mK (sV M s0 (s1).toNatClampNeg (vp_nar .boolean s2)) v0 = 6 then ob1 (mP (sV M s0 (s1).toNatClampNeg (vp_nar .boolean s2)) v0 7) (fun b3 => if mK (sV M s0 (s1).toNatClampNeg (vp_nar .boolean s2)) b3 = 8 ∧ ¬ (v2 < 0 ∨ mN (sV M s0 (s1).toNatClampNeg (vp_nar .boolean s2)) b3 ≤ (v2).toNatClampNeg) then lt1 (sV (sV M s0 (s1).toNatClampNeg (vp_nar .boolean s2)) b3 (v2).toNatClampNeg (4 : Int32)) (fun M6 => fX5_crash_115 x9 k9 rec45 v0 v1 v2 M6) else none) else none else none
set_option maxRecDepth 100000 in
set_option maxHeartbeats 4000000 in
theorem tX5_crash_107 {x9 : Cx} {K : Ct} {k9 : Nat} {M0 M9 : Mm} {r9 : Unit} (hE : Ce x9 K RX5 cX5_crash 3 none 1 22 "crash" M0) {rec45 : Nat → Int32 → Int32 → Mm → Option (Unit × Mm)} (hrec45 : ∀ (v0 : Nat) (v1 : Int32) (v2 : Int32) (M : Mm), rec45 v0 v1 v2 M = some (r9, M9) → Go x9 K 3 (Qf x9 K M0 none M9) 45 [(0, .ref v0), (1, .int v1), (2, .int v2)] [] M) (v0 : Nat) (v1 : Int32) (v2 : Int32) (s0 : Nat) (s1 : Int32) (s2 : Int32) (M : Mm) (h : fX5_crash_107 x9 k9 rec45 v0 v1 v2 s0 s1 s2 M = some (r9, M9)) : Go x9 K 3 (Qf x9 K M0 none M9) 107 [(0, .ref v0), (1, .int v1), (2, .int v2)] [.int s2, .int s1, .ref s0] M := by
  have hC := hE.1
  have hnm := hE.2.2.2.2.2.2.2.1
  unfold fX5_crash_107 at h
  obtain ⟨h1, h⟩ := os_1 h
  refine go_zast hC h1.1 h1.2 dX5_crash_107 ?_
  refine go_aload_n hC dX5_crash_108 rfl 0 rfl ?_
  obtain ⟨h2, h⟩ := os_1 h
  obtain ⟨b3, h4, h⟩ := os_b h
  refine go_getR 7 hC h2 rfl rfl h4 (C := RX5) (T := TX5) (N := 28) rfl inlX5 (by decide) m_81 (Or.inl rfl) dX5_crash_109 ?_
  refine go_iload_n hC dX5_crash_112 rfl 2 rfl ?_
  refine go_iconst hC dX5_crash_113 (v := (4 : Int32)) (by decide +kernel) ?_
  obtain ⟨h5, h⟩ := os_1 h
  refine go_iast hC h5.1 h5.2 dX5_crash_114 ?_
  obtain ⟨M6, e7, h⟩ := os_l h
  refine go_eq (pc' := 115) (st' := []) (M' := M6) (lv' := [(0, .ref v0), (1, .int v1), (2, .int v2)]) ?_ rfl rfl rfl e7
  exact tX5_crash_115 hE hrec45 _ _ _ _ h
def fX5_crash_45 (x9 : Cx) (k9 : Nat) : Nat → Nat → Int32 → Int32 → Mm → Option (Unit × Mm)
  | 0, _, _, _, _ => none
  | n9 + 1, v0, v1, v2, M => if mK M v0 = 6 then if (mV M v0 5) ≤ v2 then some ((), M) else if mK M v0 = 6 then ob1 (mP M v0 11) (fun b4 => if mK M b4 = 9 ∧ ¬ ((((5 : Int32) * v2) + v1) < 0 ∨ mN M b4 ≤ ((((5 : Int32) * v2) + v1)).toNatClampNeg) then lt1 (sV M b4 ((((5 : Int32) * v2) + v1)).toNatClampNeg (vp_nar .boolean (0 : Int32))) (fun M7 => if mK M7 v0 = 6 then ob1 (mP M7 v0 6) (fun b10 => if mK M7 b10 = 8 ∧ ¬ (v2 < 0 ∨ mN M7 b10 ≤ (v2).toNatClampNeg) then if (mV M7 b10 (v2).toNatClampNeg) = v1 then if mK M7 v0 = 6 then ob1 (mP M7 v0 7) (fun b15 => if mK M7 b15 = 8 ∧ ¬ (v2 < 0 ∨ mN M7 b15 ≤ (v2).toNatClampNeg) then if (mV M7 b15 (v2).toNatClampNeg) ≤ (1 : Int32) then if mK M7 v0 = 6 then ob1 (mP M7 v0 21) (fun b20 => if mK M7 v0 = 6 then ob1 (mP M7 v0 7) (fun b23 => if mK M7 b23 = 8 ∧ ¬ (v2 < 0 ∨ mN M7 b23 ≤ (v2).toNatClampNeg) then if (mV M7 b23 (v2).toNatClampNeg) = (1 : Int32) then fX5_crash_107 x9 k9 (fX5_crash_45 x9 k9 n9) v0 v1 v2 b20 v2 (1 : Int32) M7 else fX5_crash_107 x9 k9 (fX5_crash_45 x9 k9 n9) v0 v1 v2 b20 v2 (0 : Int32) M7 else none) else none) else none else fX5_crash_115 x9 k9 (fX5_crash_45 x9 k9 n9) v0 v1 v2 M7 else none) else none else fX5_crash_115 x9 k9 (fX5_crash_45 x9 k9 n9) v0 v1 v2 M7 else none) else none) else none) else none else none
set_option maxRecDepth 100000 in
set_option maxHeartbeats 4000000 in
theorem tX5_crash_45 {x9 : Cx} {K : Ct} {k9 : Nat} {M0 M9 : Mm} {r9 : Unit} (hE : Ce x9 K RX5 cX5_crash 3 none 1 22 "crash" M0) : ∀ (n9 : Nat) (v0 : Nat) (v1 : Int32) (v2 : Int32) (M : Mm), fX5_crash_45 x9 k9 n9 v0 v1 v2 M = some (r9, M9) → Go x9 K 3 (Qf x9 K M0 none M9) 45 [(0, .ref v0), (1, .int v1), (2, .int v2)] [] M := by
  have hC := hE.1
  have hnm := hE.2.2.2.2.2.2.2.1
  intro n9
  induction n9 with
  | zero => intro _ _ _ _ h; cases h
  | succ n9 ih =>
    intro v0 v1 v2 M h
    rw [fX5_crash_45] at h
    refine go_iload_n hC dX5_crash_45 rfl 2 rfl ?_
    refine go_aload_n hC dX5_crash_46 rfl 0 rfl ?_
    obtain ⟨h1, h⟩ := os_1 h
    refine go_getV 5 hC h1 rfl rfl (C := RX5) (T := TX5) (N := 28) rfl inlX5 (by decide) m_103 (Or.inl rfl) dX5_crash_47 ?_
    refine go_icmp_ge (t := 121) hC dX5_crash_50 (by decide) (fun c2 => ?_) (fun c2 => ?_)
    · have h := os_t h c2
      cases h
      exact go_vret hE dX5_crash_121
    · have h := os_f h c2
      refine go_aload_n hC dX5_crash_53 rfl 0 rfl ?_
      obtain ⟨h3, h⟩ := os_1 h
      obtain ⟨b4, h5, h⟩ := os_b h
      refine go_getR 11 hC h3 rfl rfl h5 (C := RX5) (T := TX5) (N := 28) rfl inlX5 (by decide) m_85 (Or.inl rfl) dX5_crash_54 ?_
      refine go_iconst hC dX5_crash_57 (v := (5 : Int32)) (by decide +kernel) ?_
      refine go_iload_n hC dX5_crash_58 rfl 2 rfl ?_
      refine go_imul hC dX5_crash_59 ?_
      refine go_iload_n hC dX5_crash_60 rfl 1 rfl ?_
      refine go_iadd hC dX5_crash_61 ?_
      refine go_iconst hC dX5_crash_62 (v := (0 : Int32)) (by decide +kernel) ?_
      obtain ⟨h6, h⟩ := os_1 h
      refine go_zast hC h6.1 h6.2 dX5_crash_63 ?_
      obtain ⟨M7, e8, h⟩ := os_l h
      refine go_eq (pc' := 64) (st' := []) (M' := M7) (lv' := [(0, .ref v0), (1, .int v1), (2, .int v2)]) ?_ rfl rfl rfl e8
      refine go_aload_n hC dX5_crash_64 rfl 0 rfl ?_
      obtain ⟨h9, h⟩ := os_1 h
      obtain ⟨b10, h11, h⟩ := os_b h
      refine go_getR 6 hC h9 rfl rfl h11 (C := RX5) (T := TX5) (N := 28) rfl inlX5 (by decide) m_80 (Or.inl rfl) dX5_crash_65 ?_
      refine go_iload_n hC dX5_crash_68 rfl 2 rfl ?_
      obtain ⟨h12, h⟩ := os_1 h
      refine go_iald hC h12.1 h12.2 dX5_crash_69 ?_
      refine go_iload_n hC dX5_crash_70 rfl 1 rfl ?_
      refine go_icmp_ne (t := 115) hC dX5_crash_71 (by decide) (fun c13 => ?_) (fun c13 => ?_)
      · have h := os_f h c13
        exact tX5_crash_115 hE ih _ _ _ _ h
      · have h := os_t h c13
        refine go_aload_n hC dX5_crash_74 rfl 0 rfl ?_
        obtain ⟨h14, h⟩ := os_1 h
        obtain ⟨b15, h16, h⟩ := os_b h
        refine go_getR 7 hC h14 rfl rfl h16 (C := RX5) (T := TX5) (N := 28) rfl inlX5 (by decide) m_81 (Or.inl rfl) dX5_crash_75 ?_
        refine go_iload_n hC dX5_crash_78 rfl 2 rfl ?_
        obtain ⟨h17, h⟩ := os_1 h
        refine go_iald hC h17.1 h17.2 dX5_crash_79 ?_
        refine go_iconst hC dX5_crash_80 (v := (1 : Int32)) (by decide +kernel) ?_
        refine go_icmp_le (t := 87) hC dX5_crash_81 (by decide) (fun c18 => ?_) (fun c18 => ?_)
        · have h := os_t h c18
          refine go_aload_n hC dX5_crash_87 rfl 0 rfl ?_
          obtain ⟨h19, h⟩ := os_1 h
          obtain ⟨b20, h21, h⟩ := os_b h
          refine go_getR 21 hC h19 rfl rfl h21 (C := RX5) (T := TX5) (N := 28) rfl inlX5 (by decide) m_95 (Or.inl rfl) dX5_crash_88 ?_
          refine go_iload_n hC dX5_crash_91 rfl 2 rfl ?_
          refine go_aload_n hC dX5_crash_92 rfl 0 rfl ?_
          obtain ⟨h22, h⟩ := os_1 h
          obtain ⟨b23, h24, h⟩ := os_b h
          refine go_getR 7 hC h22 rfl rfl h24 (C := RX5) (T := TX5) (N := 28) rfl inlX5 (by decide) m_81 (Or.inl rfl) dX5_crash_93 ?_
          refine go_iload_n hC dX5_crash_96 rfl 2 rfl ?_
          obtain ⟨h25, h⟩ := os_1 h
          refine go_iald hC h25.1 h25.2 dX5_crash_97 ?_
          refine go_iconst hC dX5_crash_98 (v := (1 : Int32)) (by decide +kernel) ?_
          refine go_icmp_ne (t := 106) hC dX5_crash_99 (by decide) (fun c26 => ?_) (fun c26 => ?_)
          · have h := os_f h c26
            refine go_iconst hC dX5_crash_106 (v := (0 : Int32)) (by decide +kernel) ?_
            exact tX5_crash_107 hE ih _ _ _ _ _ _ _ h
          · have h := os_t h c26
            refine go_iconst hC dX5_crash_102 (v := (1 : Int32)) (by decide +kernel) ?_
            refine go_goto (t := 107) hC dX5_crash_103 (by decide) ?_
            exact tX5_crash_107 hE ih _ _ _ _ _ _ _ h
        · have h := os_f h c18
          refine go_goto (t := 115) hC dX5_crash_84 (by decide) ?_
          exact tX5_crash_115 hE ih _ _ _ _ h
def fX5_crash_14 (x9 : Cx) (k9 : Nat) (v0 : Nat) (v1 : Int32) (s0 : Nat) (s1 : Int32) (M : Mm) : Option (Unit × Mm) :=
  if mK M s0 = 6 then ob2 (fX5_fails x9 k9 s0 s1 (1 : Int32) M) (fun r1 M2 => if r1 = 0 then if mK M2 v0 = 6 then ob1 (mP M2 v0 2) (fun b7 => if mK M2 b7 = 9 ∧ ¬ (v1 < 0 ∨ mN M2 b7 ≤ (v1).toNatClampNeg) then if mK M2 v0 = 6 then ob2 (fX5_fails x9 k9 v0 (mV M2 b7 (v1).toNatClampNeg) (2 : Int32) M2) (fun r10 M11 => if r10 = 0 then if mK M11 v0 = 6 then ob1 (mP M11 v0 2) (fun b16 => if mK M11 b16 = 9 ∧ ¬ (v1 < 0 ∨ mN M11 b16 ≤ (v1).toNatClampNeg) then fX5_crash_45 x9 k9 k9 v0 v1 (0 : Int32) (sV M11 b16 (v1).toNatClampNeg (vp_nar .boolean (1 : Int32))) else none) else none else fX5_crash_35 x9 k9 M11) else none else none) else none else fX5_crash_35 x9 k9 M2) else none
set_option maxRecDepth 100000 in
set_option maxHeartbeats 4000000 in
theorem tX5_crash_14 {x9 : Cx} {K : Ct} {k9 : Nat} {M0 M9 : Mm} {r9 : Unit} (hE : Ce x9 K RX5 cX5_crash 3 none 1 22 "crash" M0) (v0 : Nat) (v1 : Int32) (s0 : Nat) (s1 : Int32) (M : Mm) (h : fX5_crash_14 x9 k9 v0 v1 s0 s1 M = some (r9, M9)) : Go x9 K 3 (Qf x9 K M0 none M9) 14 [(0, .ref v0), (1, .int v1)] [.int s1, .ref s0] M := by
  have hC := hE.1
  have hnm := hE.2.2.2.2.2.2.2.1
  unfold fX5_crash_14 at h
  refine go_iconst hC dX5_crash_14 (v := (1 : Int32)) (by decide +kernel) ?_
  obtain ⟨h4, h⟩ := os_1 h
  obtain ⟨r1, M2, h3, h⟩ := os_c h
  refine go_callV (bytes := cX5_fails) (maxL := 3) (ret := (some .boolean)) (n := 2) (As := [.int s1, .int (1 : Int32)]) (st := []) hE (c_X5_fails K.2.1 h3) (by unfold okY; decide +kernel) rfl h4 rfl (C := RX5) (T := TX5) (N := 28) rfl m_127 m_124 m_125 m_126 m_5 rfl (by simp [Value.category]) (by decide) (by decide) dX5_crash_15 ?_
  refine go_eq (pc' := 18) (st' := [.int r1]) (M' := M2) (lv' := [(0, .ref v0), (1, .int v1)]) ?_ rfl rfl rfl rfl
  refine go_if_ne (t := 35) hC dX5_crash_18 (by decide) (fun c5 => ?_) (fun c5 => ?_)
  · have h := os_f h c5
    refine go_sub (lv' := []) [] rfl ?_
    exact tX5_crash_35 hE _ h
  · have h := os_t h c5
    refine go_aload_n hC dX5_crash_21 rfl 0 rfl ?_
    refine go_aload_n hC dX5_crash_22 rfl 0 rfl ?_
    obtain ⟨h6, h⟩ := os_1 h
    obtain ⟨b7, h8, h⟩ := os_b h
    refine go_getR 2 hC h6 rfl rfl h8 (C := RX5) (T := TX5) (N := 28) rfl inlX5 (by decide) m_78 (Or.inl rfl) dX5_crash_23 ?_
    refine go_iload_n hC dX5_crash_26 rfl 1 rfl ?_
    obtain ⟨h9, h⟩ := os_1 h
    refine go_zald hC h9.1 h9.2 dX5_crash_27 ?_
    refine go_iconst hC dX5_crash_28 (v := (2 : Int32)) (by decide +kernel) ?_
    obtain ⟨h13, h⟩ := os_1 h
    obtain ⟨r10, M11, h12, h⟩ := os_c h
    refine go_callV (bytes := cX5_fails) (maxL := 3) (ret := (some .boolean)) (n := 2) (As := [.int (mV M2 b7 (v1).toNatClampNeg), .int (2 : Int32)]) (st := []) hE (c_X5_fails K.2.1 h12) (by unfold okY; decide +kernel) rfl h13 rfl (C := RX5) (T := TX5) (N := 28) rfl m_127 m_124 m_125 m_126 m_5 rfl (by simp [Value.category]) (by decide) (by decide) dX5_crash_29 ?_
    refine go_eq (pc' := 32) (st' := [.int r10]) (M' := M11) (lv' := [(0, .ref v0), (1, .int v1)]) ?_ rfl rfl rfl rfl
    refine go_if_eq (t := 36) hC dX5_crash_32 (by decide) (fun c14 => ?_) (fun c14 => ?_)
    · have h := os_t h c14
      refine go_aload_n hC dX5_crash_36 rfl 0 rfl ?_
      obtain ⟨h15, h⟩ := os_1 h
      obtain ⟨b16, h17, h⟩ := os_b h
      refine go_getR 2 hC h15 rfl rfl h17 (C := RX5) (T := TX5) (N := 28) rfl inlX5 (by decide) m_78 (Or.inl rfl) dX5_crash_37 ?_
      refine go_iload_n hC dX5_crash_40 rfl 1 rfl ?_
      refine go_iconst hC dX5_crash_41 (v := (1 : Int32)) (by decide +kernel) ?_
      obtain ⟨h18, h⟩ := os_1 h
      refine go_zast hC h18.1 h18.2 dX5_crash_42 ?_
      refine go_iconst hC dX5_crash_43 (v := (0 : Int32)) (by decide +kernel) ?_
      refine go_istore_n (lv' := [(2, .int (0 : Int32)), (0, .ref v0), (1, .int v1)]) hC dX5_crash_44 rfl (by decide) rfl ?_
      refine go_sub (lv' := [(0, .ref v0), (1, .int v1), (2, .int (0 : Int32))]) [1, 2, 0] rfl ?_
      exact tX5_crash_45 hE k9 _ _ _ _ h
    · have h := os_f h c14
      refine go_sub (lv' := []) [] rfl ?_
      exact tX5_crash_35 hE _ h
def fX5_crash (x9 : Cx) (k9 : Nat) (v0 : Nat) (v1 : Int32) (M : Mm) : Option (Unit × Mm) :=
  if mK M v0 = 6 then ob2 (fX5_isSite x9 k9 v0 v1 M) (fun r1 M2 => if r1 = 0 then fX5_crash_14 x9 k9 v0 v1 v0 (1 : Int32) M2 else fX5_crash_14 x9 k9 v0 v1 v0 (0 : Int32) M2) else none
set_option maxRecDepth 100000 in
set_option maxHeartbeats 4000000 in
theorem tX5_crash_0 {x9 : Cx} {K : Ct} {k9 : Nat} {M0 M9 : Mm} {r9 : Unit} (hE : Ce x9 K RX5 cX5_crash 3 none 1 22 "crash" M0) (v0 : Nat) (v1 : Int32) (M : Mm) (h : fX5_crash x9 k9 v0 v1 M = some (r9, M9)) : Go x9 K 3 (Qf x9 K M0 none M9) 0 [(0, .ref v0), (1, .int v1)] [] M := by
  have hC := hE.1
  have hnm := hE.2.2.2.2.2.2.2.1
  unfold fX5_crash at h
  refine go_aload_n hC dX5_crash_0 rfl 0 rfl ?_
  refine go_aload_n hC dX5_crash_1 rfl 0 rfl ?_
  refine go_iload_n hC dX5_crash_2 rfl 1 rfl ?_
  obtain ⟨h4, h⟩ := os_1 h
  obtain ⟨r1, M2, h3, h⟩ := os_c h
  refine go_callV (bytes := cX5_isSite) (maxL := 2) (ret := (some .boolean)) (n := 1) (As := [.int v1]) (st := [.ref v0]) hE (c_X5_isSite K.2.1 h3) (by unfold okY; decide +kernel) rfl h4 rfl (C := RX5) (T := TX5) (N := 28) rfl m_256 m_253 m_254 m_255 m_5 rfl (by simp [Value.category]) (by decide) (by decide) dX5_crash_3 ?_
  refine go_eq (pc' := 6) (st' := [.int r1, .ref v0]) (M' := M2) (lv' := [(0, .ref v0), (1, .int v1)]) ?_ rfl rfl rfl rfl
  refine go_if_ne (t := 13) hC dX5_crash_6 (by decide) (fun c5 => ?_) (fun c5 => ?_)
  · have h := os_f h c5
    refine go_iconst hC dX5_crash_13 (v := (0 : Int32)) (by decide +kernel) ?_
    exact tX5_crash_14 hE _ _ _ _ _ h
  · have h := os_t h c5
    refine go_iconst hC dX5_crash_9 (v := (1 : Int32)) (by decide +kernel) ?_
    refine go_goto (t := 14) hC dX5_crash_10 (by decide) ?_
    exact tX5_crash_14 hE _ _ _ _ _ h
theorem c_X5_crash (l : Launch) {x9 : Cx} {k9 : Nat} {M M9 : Mm} {r9 : Unit} {v0 : Nat} {v1 : Int32} (h : fX5_crash x9 k9 v0 v1 M = some (r9, M9)) : Fn l x9 yX5_crash cX5_crash 3 none 1 22 [.ref v0, .int v1] M none M9 :=
  Fn.of (by decide +kernel) (Nat.le_of_ble_eq_true rfl) rfl (fun K _ hE => tX5_crash_0 hE _ _ _ h)
/-! X5_restart -/
def fX5_restart_43 (x9 : Cx) (k9 : Nat) (M : Mm) : Option (Unit × Mm) :=
  some ((), M)
set_option maxRecDepth 100000 in
set_option maxHeartbeats 4000000 in
theorem tX5_restart_43 {x9 : Cx} {K : Ct} {k9 : Nat} {M0 M9 : Mm} {r9 : Unit} (hE : Ce x9 K RX5 cX5_restart 3 none 2 46 "restart" M0) (M : Mm) (h : fX5_restart_43 x9 k9 M = some (r9, M9)) : Go x9 K 3 (Qf x9 K M0 none M9) 43 [] [] M := by
  have hC := hE.1
  have hnm := hE.2.2.2.2.2.2.2.1
  unfold fX5_restart_43 at h
  cases h
  exact go_vret hE dX5_restart_43
def fX5_restart_92 (x9 : Cx) (k9 : Nat) (rec53 : Nat → Int32 → Int32 → Mm → Option (Unit × Mm)) (v0 : Nat) (v1 : Int32) (v2 : Int32) (M : Mm) : Option (Unit × Mm) :=
  rec53 v0 v1 (v2 + 1) M
set_option maxRecDepth 100000 in
set_option maxHeartbeats 4000000 in
theorem tX5_restart_92 {x9 : Cx} {K : Ct} {k9 : Nat} {M0 M9 : Mm} {r9 : Unit} (hE : Ce x9 K RX5 cX5_restart 3 none 2 46 "restart" M0) {rec53 : Nat → Int32 → Int32 → Mm → Option (Unit × Mm)} (hrec53 : ∀ (v0 : Nat) (v1 : Int32) (v2 : Int32) (M : Mm), rec53 v0 v1 v2 M = some (r9, M9) → Go x9 K 3 (Qf x9 K M0 none M9) 53 [(0, .ref v0), (1, .int v1), (2, .int v2)] [] M) (v0 : Nat) (v1 : Int32) (v2 : Int32) (M : Mm) (h : fX5_restart_92 x9 k9 rec53 v0 v1 v2 M = some (r9, M9)) : Go x9 K 3 (Qf x9 K M0 none M9) 92 [(0, .ref v0), (1, .int v1), (2, .int v2)] [] M := by
  have hC := hE.1
  have hnm := hE.2.2.2.2.2.2.2.1
  unfold fX5_restart_92 at h
  refine go_iinc (q := 2) (v := (v2 + 1)) (lv' := [(2, .int (v2 + 1)), (0, .ref v0), (1, .int v1)]) hC dX5_restart_92 rfl rfl (by decide) rfl ?_
  refine go_goto (t := 53) hC dX5_restart_95 (by decide) ?_
  refine go_sub (lv' := [(0, .ref v0), (1, .int v1), (2, .int (v2 + 1))]) [1, 2, 0] rfl ?_
  exact hrec53 _ _ _ _ h
def fX5_restart_53 (x9 : Cx) (k9 : Nat) : Nat → Nat → Int32 → Int32 → Mm → Option (Unit × Mm)
  | 0, _, _, _, _ => none
  | n9 + 1, v0, v1, v2, M => if mK M v0 = 6 then if (mV M v0 5) ≤ v2 then some ((), M) else if mK M v0 = 6 then ob1 (mP M v0 6) (fun b4 => if mK M b4 = 8 ∧ ¬ (v2 < 0 ∨ mN M b4 ≤ (v2).toNatClampNeg) then if (mV M b4 (v2).toNatClampNeg) = v1 then if mK M v0 = 6 then ob1 (mP M v0 21) (fun b9 => if mK M b9 = 9 ∧ ¬ (v2 < 0 ∨ mN M b9 ≤ (v2).toNatClampNeg) then if (mV M b9 (v2).toNatClampNeg) = 0 then fX5_restart_92 x9 k9 (fX5_restart_53 x9 k9 n9) v0 v1 v2 M else if mK M v0 = 6 then ob1 (mP M v0 21) (fun b14 => if mK M b14 = 9 ∧ ¬ (v2 < 0 ∨ mN M b14 ≤ (v2).toNatClampNeg) then if mK (sV M b14 (v2).toNatClampNeg (vp_nar .boolean (0 : Int32))) v0 = 6 then ob2 (fX5_frees x9 k9 v0 v2 (sV M b14 (v2).toNatClampNeg (vp_nar .boolean (0 : Int32)))) (fun r17 M18 => fX5_restart_92 x9 k9 (fX5_restart_53 x9 k9 n9) v0 v1 v2 M18) else none else none) else none else none) else none else fX5_restart_92 x9 k9 (fX5_restart_53 x9 k9 n9) v0 v1 v2 M else none) else none else none
set_option maxRecDepth 100000 in
set_option maxHeartbeats 4000000 in
theorem tX5_restart_53 {x9 : Cx} {K : Ct} {k9 : Nat} {M0 M9 : Mm} {r9 : Unit} (hE : Ce x9 K RX5 cX5_restart 3 none 2 46 "restart" M0) : ∀ (n9 : Nat) (v0 : Nat) (v1 : Int32) (v2 : Int32) (M : Mm), fX5_restart_53 x9 k9 n9 v0 v1 v2 M = some (r9, M9) → Go x9 K 3 (Qf x9 K M0 none M9) 53 [(0, .ref v0), (1, .int v1), (2, .int v2)] [] M := by
  have hC := hE.1
  have hnm := hE.2.2.2.2.2.2.2.1
  intro n9
  induction n9 with
  | zero => intro _ _ _ _ h; cases h
  | succ n9 ih =>
    intro v0 v1 v2 M h
    rw [fX5_restart_53] at h
    refine go_iload_n hC dX5_restart_53 rfl 2 rfl ?_
    refine go_aload_n hC dX5_restart_54 rfl 0 rfl ?_
    obtain ⟨h1, h⟩ := os_1 h
    refine go_getV 5 hC h1 rfl rfl (C := RX5) (T := TX5) (N := 28) rfl inlX5 (by decide) m_103 (Or.inl rfl) dX5_restart_55 ?_
    refine go_icmp_ge (t := 98) hC dX5_restart_58 (by decide) (fun c2 => ?_) (fun c2 => ?_)
    · have h := os_t h c2
      cases h
      exact go_vret hE dX5_restart_98
    · have h := os_f h c2
      refine go_aload_n hC dX5_restart_61 rfl 0 rfl ?_
      obtain ⟨h3, h⟩ := os_1 h
      obtain ⟨b4, h5, h⟩ := os_b h
      refine go_getR 6 hC h3 rfl rfl h5 (C := RX5) (T := TX5) (N := 28) rfl inlX5 (by decide) m_80 (Or.inl rfl) dX5_restart_62 ?_
      refine go_iload_n hC dX5_restart_65 rfl 2 rfl ?_
      obtain ⟨h6, h⟩ := os_1 h
      refine go_iald hC h6.1 h6.2 dX5_restart_66 ?_
      refine go_iload_n hC dX5_restart_67 rfl 1 rfl ?_
      refine go_icmp_ne (t := 92) hC dX5_restart_68 (by decide) (fun c7 => ?_) (fun c7 => ?_)
      · have h := os_f h c7
        exact tX5_restart_92 hE ih _ _ _ _ h
      · have h := os_t h c7
        refine go_aload_n hC dX5_restart_71 rfl 0 rfl ?_
        obtain ⟨h8, h⟩ := os_1 h
        obtain ⟨b9, h10, h⟩ := os_b h
        refine go_getR 21 hC h8 rfl rfl h10 (C := RX5) (T := TX5) (N := 28) rfl inlX5 (by decide) m_95 (Or.inl rfl) dX5_restart_72 ?_
        refine go_iload_n hC dX5_restart_75 rfl 2 rfl ?_
        obtain ⟨h11, h⟩ := os_1 h
        refine go_zald hC h11.1 h11.2 dX5_restart_76 ?_
        refine go_if_eq (t := 92) hC dX5_restart_77 (by decide) (fun c12 => ?_) (fun c12 => ?_)
        · have h := os_t h c12
          exact tX5_restart_92 hE ih _ _ _ _ h
        · have h := os_f h c12
          refine go_aload_n hC dX5_restart_80 rfl 0 rfl ?_
          obtain ⟨h13, h⟩ := os_1 h
          obtain ⟨b14, h15, h⟩ := os_b h
          refine go_getR 21 hC h13 rfl rfl h15 (C := RX5) (T := TX5) (N := 28) rfl inlX5 (by decide) m_95 (Or.inl rfl) dX5_restart_81 ?_
          refine go_iload_n hC dX5_restart_84 rfl 2 rfl ?_
          refine go_iconst hC dX5_restart_85 (v := (0 : Int32)) (by decide +kernel) ?_
          obtain ⟨h16, h⟩ := os_1 h
          refine go_zast hC h16.1 h16.2 dX5_restart_86 ?_
          refine go_aload_n hC dX5_restart_87 rfl 0 rfl ?_
          refine go_iload_n hC dX5_restart_88 rfl 2 rfl ?_
          obtain ⟨h20, h⟩ := os_1 h
          obtain ⟨r17, M18, h19, h⟩ := os_c h
          refine go_callV (bytes := cX5_frees) (maxL := 3) (ret := none) (n := 1) (As := [.int v2]) (st := []) hE (c_X5_frees K.2.1 h19) (by unfold okY; decide +kernel) rfl h20 rfl (C := RX5) (T := TX5) (N := 28) rfl m_619 m_616 m_617 m_618 m_5 rfl (by simp [Value.category]) (by decide) (by decide) dX5_restart_89 ?_
          refine go_eq (pc' := 92) (st' := []) (M' := M18) (lv' := [(0, .ref v0), (1, .int v1), (2, .int v2)]) ?_ rfl rfl rfl rfl
          exact tX5_restart_92 hE ih _ _ _ _ h
def fX5_restart_36 (x9 : Cx) (k9 : Nat) (v0 : Nat) (v1 : Int32) (s0 : Nat) (s1 : Int32) (M : Mm) : Option (Unit × Mm) :=
  if mK M s0 = 6 then ob2 (fX5_fails x9 k9 s0 s1 (2 : Int32) M) (fun r1 M2 => if r1 = 0 then if mK M2 v0 = 6 then ob1 (mP M2 v0 2) (fun b7 => if mK M2 b7 = 9 ∧ ¬ (v1 < 0 ∨ mN M2 b7 ≤ (v1).toNatClampNeg) then fX5_restart_53 x9 k9 k9 v0 v1 (0 : Int32) (sV M2 b7 (v1).toNatClampNeg (vp_nar .boolean (0 : Int32))) else none) else none else fX5_restart_43 x9 k9 M2) else none
set_option maxRecDepth 100000 in
set_option maxHeartbeats 4000000 in
theorem tX5_restart_36 {x9 : Cx} {K : Ct} {k9 : Nat} {M0 M9 : Mm} {r9 : Unit} (hE : Ce x9 K RX5 cX5_restart 3 none 2 46 "restart" M0) (v0 : Nat) (v1 : Int32) (s0 : Nat) (s1 : Int32) (M : Mm) (h : fX5_restart_36 x9 k9 v0 v1 s0 s1 M = some (r9, M9)) : Go x9 K 3 (Qf x9 K M0 none M9) 36 [(0, .ref v0), (1, .int v1)] [.int s1, .ref s0] M := by
  have hC := hE.1
  have hnm := hE.2.2.2.2.2.2.2.1
  unfold fX5_restart_36 at h
  refine go_iconst hC dX5_restart_36 (v := (2 : Int32)) (by decide +kernel) ?_
  obtain ⟨h4, h⟩ := os_1 h
  obtain ⟨r1, M2, h3, h⟩ := os_c h
  refine go_callV (bytes := cX5_fails) (maxL := 3) (ret := (some .boolean)) (n := 2) (As := [.int s1, .int (2 : Int32)]) (st := []) hE (c_X5_fails K.2.1 h3) (by unfold okY; decide +kernel) rfl h4 rfl (C := RX5) (T := TX5) (N := 28) rfl m_127 m_124 m_125 m_126 m_5 rfl (by simp [Value.category]) (by decide) (by decide) dX5_restart_37 ?_
  refine go_eq (pc' := 40) (st' := [.int r1]) (M' := M2) (lv' := [(0, .ref v0), (1, .int v1)]) ?_ rfl rfl rfl rfl
  refine go_if_eq (t := 44) hC dX5_restart_40 (by decide) (fun c5 => ?_) (fun c5 => ?_)
  · have h := os_t h c5
    refine go_aload_n hC dX5_restart_44 rfl 0 rfl ?_
    obtain ⟨h6, h⟩ := os_1 h
    obtain ⟨b7, h8, h⟩ := os_b h
    refine go_getR 2 hC h6 rfl rfl h8 (C := RX5) (T := TX5) (N := 28) rfl inlX5 (by decide) m_78 (Or.inl rfl) dX5_restart_45 ?_
    refine go_iload_n hC dX5_restart_48 rfl 1 rfl ?_
    refine go_iconst hC dX5_restart_49 (v := (0 : Int32)) (by decide +kernel) ?_
    obtain ⟨h9, h⟩ := os_1 h
    refine go_zast hC h9.1 h9.2 dX5_restart_50 ?_
    refine go_iconst hC dX5_restart_51 (v := (0 : Int32)) (by decide +kernel) ?_
    refine go_istore_n (lv' := [(2, .int (0 : Int32)), (0, .ref v0), (1, .int v1)]) hC dX5_restart_52 rfl (by decide) rfl ?_
    refine go_sub (lv' := [(0, .ref v0), (1, .int v1), (2, .int (0 : Int32))]) [1, 2, 0] rfl ?_
    exact tX5_restart_53 hE k9 _ _ _ _ h
  · have h := os_f h c5
    refine go_sub (lv' := []) [] rfl ?_
    exact tX5_restart_43 hE _ h
def fX5_restart_14 (x9 : Cx) (k9 : Nat) (v0 : Nat) (v1 : Int32) (s0 : Nat) (s1 : Int32) (M : Mm) : Option (Unit × Mm) :=
  if mK M s0 = 6 then ob2 (fX5_fails x9 k9 s0 s1 (1 : Int32) M) (fun r1 M2 => if r1 = 0 then if mK M2 v0 = 6 then ob1 (mP M2 v0 2) (fun b7 => if mK M2 b7 = 9 ∧ ¬ (v1 < 0 ∨ mN M2 b7 ≤ (v1).toNatClampNeg) then if (mV M2 b7 (v1).toNatClampNeg) = 0 then fX5_restart_36 x9 k9 v0 v1 v0 (1 : Int32) M2 else fX5_restart_36 x9 k9 v0 v1 v0 (0 : Int32) M2 else none) else none else fX5_restart_43 x9 k9 M2) else none
set_option maxRecDepth 100000 in
set_option maxHeartbeats 4000000 in
theorem tX5_restart_14 {x9 : Cx} {K : Ct} {k9 : Nat} {M0 M9 : Mm} {r9 : Unit} (hE : Ce x9 K RX5 cX5_restart 3 none 2 46 "restart" M0) (v0 : Nat) (v1 : Int32) (s0 : Nat) (s1 : Int32) (M : Mm) (h : fX5_restart_14 x9 k9 v0 v1 s0 s1 M = some (r9, M9)) : Go x9 K 3 (Qf x9 K M0 none M9) 14 [(0, .ref v0), (1, .int v1)] [.int s1, .ref s0] M := by
  have hC := hE.1
  have hnm := hE.2.2.2.2.2.2.2.1
  unfold fX5_restart_14 at h
  refine go_iconst hC dX5_restart_14 (v := (1 : Int32)) (by decide +kernel) ?_
  obtain ⟨h4, h⟩ := os_1 h
  obtain ⟨r1, M2, h3, h⟩ := os_c h
  refine go_callV (bytes := cX5_fails) (maxL := 3) (ret := (some .boolean)) (n := 2) (As := [.int s1, .int (1 : Int32)]) (st := []) hE (c_X5_fails K.2.1 h3) (by unfold okY; decide +kernel) rfl h4 rfl (C := RX5) (T := TX5) (N := 28) rfl m_127 m_124 m_125 m_126 m_5 rfl (by simp [Value.category]) (by decide) (by decide) dX5_restart_15 ?_
  refine go_eq (pc' := 18) (st' := [.int r1]) (M' := M2) (lv' := [(0, .ref v0), (1, .int v1)]) ?_ rfl rfl rfl rfl
  refine go_if_ne (t := 43) hC dX5_restart_18 (by decide) (fun c5 => ?_) (fun c5 => ?_)
  · have h := os_f h c5
    refine go_sub (lv' := []) [] rfl ?_
    exact tX5_restart_43 hE _ h
  · have h := os_t h c5
    refine go_aload_n hC dX5_restart_21 rfl 0 rfl ?_
    refine go_aload_n hC dX5_restart_22 rfl 0 rfl ?_
    obtain ⟨h6, h⟩ := os_1 h
    obtain ⟨b7, h8, h⟩ := os_b h
    refine go_getR 2 hC h6 rfl rfl h8 (C := RX5) (T := TX5) (N := 28) rfl inlX5 (by decide) m_78 (Or.inl rfl) dX5_restart_23 ?_
    refine go_iload_n hC dX5_restart_26 rfl 1 rfl ?_
    obtain ⟨h9, h⟩ := os_1 h
    refine go_zald hC h9.1 h9.2 dX5_restart_27 ?_
    refine go_if_ne (t := 35) hC dX5_restart_28 (by decide) (fun c10 => ?_) (fun c10 => ?_)
    · have h := os_f h c10
      refine go_iconst hC dX5_restart_35 (v := (0 : Int32)) (by decide +kernel) ?_
      exact tX5_restart_36 hE _ _ _ _ _ h
    · have h := os_t h c10
      refine go_iconst hC dX5_restart_31 (v := (1 : Int32)) (by decide +kernel) ?_
      refine go_goto (t := 36) hC dX5_restart_32 (by decide) ?_
      exact tX5_restart_36 hE _ _ _ _ _ h
def fX5_restart (x9 : Cx) (k9 : Nat) (v0 : Nat) (v1 : Int32) (M : Mm) : Option (Unit × Mm) :=
  if mK M v0 = 6 then ob2 (fX5_isSite x9 k9 v0 v1 M) (fun r1 M2 => if r1 = 0 then fX5_restart_14 x9 k9 v0 v1 v0 (1 : Int32) M2 else fX5_restart_14 x9 k9 v0 v1 v0 (0 : Int32) M2) else none
set_option maxRecDepth 100000 in
set_option maxHeartbeats 4000000 in
theorem tX5_restart_0 {x9 : Cx} {K : Ct} {k9 : Nat} {M0 M9 : Mm} {r9 : Unit} (hE : Ce x9 K RX5 cX5_restart 3 none 2 46 "restart" M0) (v0 : Nat) (v1 : Int32) (M : Mm) (h : fX5_restart x9 k9 v0 v1 M = some (r9, M9)) : Go x9 K 3 (Qf x9 K M0 none M9) 0 [(0, .ref v0), (1, .int v1)] [] M := by
  have hC := hE.1
  have hnm := hE.2.2.2.2.2.2.2.1
  unfold fX5_restart at h
  refine go_aload_n hC dX5_restart_0 rfl 0 rfl ?_
  refine go_aload_n hC dX5_restart_1 rfl 0 rfl ?_
  refine go_iload_n hC dX5_restart_2 rfl 1 rfl ?_
  obtain ⟨h4, h⟩ := os_1 h
  obtain ⟨r1, M2, h3, h⟩ := os_c h
  refine go_callV (bytes := cX5_isSite) (maxL := 2) (ret := (some .boolean)) (n := 1) (As := [.int v1]) (st := [.ref v0]) hE (c_X5_isSite K.2.1 h3) (by unfold okY; decide +kernel) rfl h4 rfl (C := RX5) (T := TX5) (N := 28) rfl m_256 m_253 m_254 m_255 m_5 rfl (by simp [Value.category]) (by decide) (by decide) dX5_restart_3 ?_
  refine go_eq (pc' := 6) (st' := [.int r1, .ref v0]) (M' := M2) (lv' := [(0, .ref v0), (1, .int v1)]) ?_ rfl rfl rfl rfl
  refine go_if_ne (t := 13) hC dX5_restart_6 (by decide) (fun c5 => ?_) (fun c5 => ?_)
  · have h := os_f h c5
    refine go_iconst hC dX5_restart_13 (v := (0 : Int32)) (by decide +kernel) ?_
    exact tX5_restart_14 hE _ _ _ _ _ h
  · have h := os_t h c5
    refine go_iconst hC dX5_restart_9 (v := (1 : Int32)) (by decide +kernel) ?_
    refine go_goto (t := 14) hC dX5_restart_10 (by decide) ?_
    exact tX5_restart_14 hE _ _ _ _ _ h
theorem c_X5_restart (l : Launch) {x9 : Cx} {k9 : Nat} {M M9 : Mm} {r9 : Unit} {v0 : Nat} {v1 : Int32} (h : fX5_restart x9 k9 v0 v1 M = some (r9, M9)) : Fn l x9 yX5_restart cX5_restart 3 none 2 46 [.ref v0, .int v1] M none M9 :=
  Fn.of (by decide +kernel) (Nat.le_of_ble_eq_true rfl) rfl (fun K _ hE => tX5_restart_0 hE _ _ _ h)
/-! X5_about -/
def fX5_about_132 (x9 : Cx) (k9 : Nat) (rec75 : Nat → Int32 → Int32 → Int32 → Int32 → Mm → Option (Int32 × Mm)) (v0 : Nat) (v2 : Int32) (v3 : Int32) (v5 : Int32) (s0 : Int32) (s1 : Int32) (M : Mm) : Option (Int32 × Mm) :=
  rec75 v0 v2 v3 (s0 + s1) (v5 + 1) M
set_option maxRecDepth 100000 in
set_option maxHeartbeats 4000000 in
theorem tX5_about_132 {x9 : Cx} {K : Ct} {k9 : Nat} {M0 M9 : Mm} {r9 : Int32} (hE : Ce x9 K RX5 cX5_about 6 (some .int) 1 22 "about" M0) {rec75 : Nat → Int32 → Int32 → Int32 → Int32 → Mm → Option (Int32 × Mm)} (hrec75 : ∀ (v0 : Nat) (v2 : Int32) (v3 : Int32) (v4 : Int32) (v5 : Int32) (M : Mm), rec75 v0 v2 v3 v4 v5 M = some (r9, M9) → Go x9 K 6 (Qf x9 K M0 (some (.int r9)) M9) 75 [(0, .ref v0), (2, .int v2), (3, .int v3), (4, .int v4), (5, .int v5)] [] M) (v0 : Nat) (v2 : Int32) (v3 : Int32) (v5 : Int32) (s0 : Int32) (s1 : Int32) (M : Mm) (h : fX5_about_132 x9 k9 rec75 v0 v2 v3 v5 s0 s1 M = some (r9, M9)) : Go x9 K 6 (Qf x9 K M0 (some (.int r9)) M9) 132 [(0, .ref v0), (2, .int v2), (3, .int v3), (5, .int v5)] [.int s1, .int s0] M := by
  have hC := hE.1
  have hnm := hE.2.2.2.2.2.2.2.1
  unfold fX5_about_132 at h
  refine go_iadd hC dX5_about_132 ?_
  refine go_istore (lv' := [(4, .int (s0 + s1)), (0, .ref v0), (2, .int v2), (3, .int v3), (5, .int v5)]) hC dX5_about_133 (by decide) rfl ?_
  refine go_iinc (q := 4) (v := (v5 + 1)) (lv' := [(5, .int (v5 + 1)), (4, .int (s0 + s1)), (0, .ref v0), (2, .int v2), (3, .int v3)]) hC dX5_about_135 rfl rfl (by decide) rfl ?_
  refine go_goto (t := 75) hC dX5_about_138 (by decide) ?_
  refine go_sub (lv' := [(0, .ref v0), (2, .int v2), (3, .int v3), (4, .int (s0 + s1)), (5, .int (v5 + 1))]) [2, 3, 4, 1, 0] rfl ?_
  exact hrec75 _ _ _ _ _ _ h
def fX5_about_75 (x9 : Cx) (k9 : Nat) : Nat → Nat → Int32 → Int32 → Int32 → Int32 → Mm → Option (Int32 × Mm)
  | 0, _, _, _, _, _, _ => none
  | n9 + 1, v0, v2, v3, v4, v5, M => if mK M v0 = 6 then if (mV M v0 0) ≤ v5 then some (v4, M) else if v2 = (3 : Int32) then if mK M v0 = 6 then ob1 (mP M v0 10) (fun b10 => if mK M b10 = 8 ∧ ¬ ((((5 : Int32) * v3) + v5) < 0 ∨ mN M b10 ≤ ((((5 : Int32) * v3) + v5)).toNatClampNeg) then if (mV M b10 ((((5 : Int32) * v3) + v5)).toNatClampNeg) ≤ 0 then fX5_about_132 x9 k9 (fX5_about_75 x9 k9 n9) v0 v2 v3 v5 v4 (0 : Int32) M else fX5_about_132 x9 k9 (fX5_about_75 x9 k9 n9) v0 v2 v3 v5 v4 (1 : Int32) M else none) else none else if mK M v0 = 6 then ob1 (mP M v0 14) (fun b5 => if mK M b5 = 9 ∧ ¬ ((((5 : Int32) * v3) + v5) < 0 ∨ mN M b5 ≤ ((((5 : Int32) * v3) + v5)).toNatClampNeg) then if (mV M b5 ((((5 : Int32) * v3) + v5)).toNatClampNeg) = 0 then fX5_about_132 x9 k9 (fX5_about_75 x9 k9 n9) v0 v2 v3 v5 v4 (0 : Int32) M else fX5_about_132 x9 k9 (fX5_about_75 x9 k9 n9) v0 v2 v3 v5 v4 (1 : Int32) M else none) else none else none
set_option maxRecDepth 100000 in
set_option maxHeartbeats 4000000 in
theorem tX5_about_75 {x9 : Cx} {K : Ct} {k9 : Nat} {M0 M9 : Mm} {r9 : Int32} (hE : Ce x9 K RX5 cX5_about 6 (some .int) 1 22 "about" M0) : ∀ (n9 : Nat) (v0 : Nat) (v2 : Int32) (v3 : Int32) (v4 : Int32) (v5 : Int32) (M : Mm), fX5_about_75 x9 k9 n9 v0 v2 v3 v4 v5 M = some (r9, M9) → Go x9 K 6 (Qf x9 K M0 (some (.int r9)) M9) 75 [(0, .ref v0), (2, .int v2), (3, .int v3), (4, .int v4), (5, .int v5)] [] M := by
  have hC := hE.1
  have hnm := hE.2.2.2.2.2.2.2.1
  intro n9
  induction n9 with
  | zero => intro _ _ _ _ _ _ h; cases h
  | succ n9 ih =>
    intro v0 v2 v3 v4 v5 M h
    rw [fX5_about_75] at h
    refine go_iload hC dX5_about_75 4 rfl ?_
    refine go_aload_n hC dX5_about_77 rfl 0 rfl ?_
    obtain ⟨h1, h⟩ := os_1 h
    refine go_getV 0 hC h1 rfl rfl (C := RX5) (T := TX5) (N := 28) rfl inlX5 (by decide) m_75 (Or.inl rfl) dX5_about_78 ?_
    refine go_icmp_ge (t := 141) hC dX5_about_81 (by decide) (fun c2 => ?_) (fun c2 => ?_)
    · have h := os_t h c2
      refine go_iload hC dX5_about_141 3 rfl ?_
      cases h
      exact go_iret hE dX5_about_143
    · have h := os_f h c2
      refine go_iload hC dX5_about_84 3 rfl ?_
      refine go_iload_n hC dX5_about_86 rfl 1 rfl ?_
      refine go_iconst hC dX5_about_87 (v := (3 : Int32)) (by decide +kernel) ?_
      refine go_icmp_ne (t := 113) hC dX5_about_88 (by decide) (fun c3 => ?_) (fun c3 => ?_)
      · have h := os_f h c3
        refine go_aload_n hC dX5_about_113 rfl 0 rfl ?_
        obtain ⟨h4, h⟩ := os_1 h
        obtain ⟨b5, h6, h⟩ := os_b h
        refine go_getR 14 hC h4 rfl rfl h6 (C := RX5) (T := TX5) (N := 28) rfl inlX5 (by decide) m_88 (Or.inl rfl) dX5_about_114 ?_
        refine go_iconst hC dX5_about_117 (v := (5 : Int32)) (by decide +kernel) ?_
        refine go_iload_n hC dX5_about_118 rfl 2 rfl ?_
        refine go_imul hC dX5_about_119 ?_
        refine go_iload hC dX5_about_120 4 rfl ?_
        refine go_iadd hC dX5_about_122 ?_
        obtain ⟨h7, h⟩ := os_1 h
        refine go_zald hC h7.1 h7.2 dX5_about_123 ?_
        refine go_if_eq (t := 131) hC dX5_about_124 (by decide) (fun c8 => ?_) (fun c8 => ?_)
        · have h := os_t h c8
          refine go_iconst hC dX5_about_131 (v := (0 : Int32)) (by decide +kernel) ?_
          refine go_sub (lv' := [(0, .ref v0), (2, .int v2), (3, .int v3), (5, .int v5)]) [0, 1, 2, 4] rfl ?_
          exact tX5_about_132 hE ih _ _ _ _ _ _ _ h
        · have h := os_f h c8
          refine go_iconst hC dX5_about_127 (v := (1 : Int32)) (by decide +kernel) ?_
          refine go_goto (t := 132) hC dX5_about_128 (by decide) ?_
          refine go_sub (lv' := [(0, .ref v0), (2, .int v2), (3, .int v3), (5, .int v5)]) [0, 1, 2, 4] rfl ?_
          exact tX5_about_132 hE ih _ _ _ _ _ _ _ h
      · have h := os_t h c3
        refine go_aload_n hC dX5_about_91 rfl 0 rfl ?_
        obtain ⟨h9, h⟩ := os_1 h
        obtain ⟨b10, h11, h⟩ := os_b h
        refine go_getR 10 hC h9 rfl rfl h11 (C := RX5) (T := TX5) (N := 28) rfl inlX5 (by decide) m_84 (Or.inl rfl) dX5_about_92 ?_
        refine go_iconst hC dX5_about_95 (v := (5 : Int32)) (by decide +kernel) ?_
        refine go_iload_n hC dX5_about_96 rfl 2 rfl ?_
        refine go_imul hC dX5_about_97 ?_
        refine go_iload hC dX5_about_98 4 rfl ?_
        refine go_iadd hC dX5_about_100 ?_
        obtain ⟨h12, h⟩ := os_1 h
        refine go_iald hC h12.1 h12.2 dX5_about_101 ?_
        refine go_if_le (t := 109) hC dX5_about_102 (by decide) (fun c13 => ?_) (fun c13 => ?_)
        · have h := os_t h c13
          refine go_iconst hC dX5_about_109 (v := (0 : Int32)) (by decide +kernel) ?_
          refine go_goto (t := 132) hC dX5_about_110 (by decide) ?_
          refine go_sub (lv' := [(0, .ref v0), (2, .int v2), (3, .int v3), (5, .int v5)]) [0, 1, 2, 4] rfl ?_
          exact tX5_about_132 hE ih _ _ _ _ _ _ _ h
        · have h := os_f h c13
          refine go_iconst hC dX5_about_105 (v := (1 : Int32)) (by decide +kernel) ?_
          refine go_goto (t := 132) hC dX5_about_106 (by decide) ?_
          refine go_sub (lv' := [(0, .ref v0), (2, .int v2), (3, .int v3), (5, .int v5)]) [0, 1, 2, 4] rfl ?_
          exact tX5_about_132 hE ih _ _ _ _ _ _ _ h
def fX5_about_23 (x9 : Cx) (k9 : Nat) (v0 : Nat) (v1 : Int32) (v2 : Int32) (s0 : Nat) (s1 : Int32) (M : Mm) : Option (Int32 × Mm) :=
  if mK M s0 = 6 then ob2 (fX5_fails x9 k9 s0 s1 (1 : Int32) M) (fun r1 M2 => if r1 = 0 then if v2 = 0 then if mK M2 v0 = 6 then ob1 (mP M2 v0 7) (fun b18 => if mK M2 b18 = 8 ∧ ¬ (v1 < 0 ∨ mN M2 b18 ≤ (v1).toNatClampNeg) then some ((mV M2 b18 (v1).toNatClampNeg), M2) else none) else none else if v2 = (1 : Int32) then if mK M2 v0 = 6 then ob1 (mP M2 v0 6) (fun b14 => if mK M2 b14 = 8 ∧ ¬ (v1 < 0 ∨ mN M2 b14 ≤ (v1).toNatClampNeg) then some ((mV M2 b14 (v1).toNatClampNeg), M2) else none) else none else if v2 = (2 : Int32) then if mK M2 v0 = 6 then ob1 (mP M2 v0 8) (fun b10 => if mK M2 b10 = 8 ∧ ¬ (v1 < 0 ∨ mN M2 b10 ≤ (v1).toNatClampNeg) then some ((mV M2 b10 (v1).toNatClampNeg), M2) else none) else none else fX5_about_75 x9 k9 k9 v0 v2 v1 (0 : Int32) (0 : Int32) M2 else some ((0 : Int32), M2)) else none
set_option maxRecDepth 100000 in
set_option maxHeartbeats 4000000 in
theorem tX5_about_23 {x9 : Cx} {K : Ct} {k9 : Nat} {M0 M9 : Mm} {r9 : Int32} (hE : Ce x9 K RX5 cX5_about 6 (some .int) 1 22 "about" M0) (v0 : Nat) (v1 : Int32) (v2 : Int32) (s0 : Nat) (s1 : Int32) (M : Mm) (h : fX5_about_23 x9 k9 v0 v1 v2 s0 s1 M = some (r9, M9)) : Go x9 K 6 (Qf x9 K M0 (some (.int r9)) M9) 23 [(0, .ref v0), (1, .int v1), (2, .int v2)] [.int s1, .ref s0] M := by
  have hC := hE.1
  have hnm := hE.2.2.2.2.2.2.2.1
  unfold fX5_about_23 at h
  refine go_iconst hC dX5_about_23 (v := (1 : Int32)) (by decide +kernel) ?_
  obtain ⟨h4, h⟩ := os_1 h
  obtain ⟨r1, M2, h3, h⟩ := os_c h
  refine go_callV (bytes := cX5_fails) (maxL := 3) (ret := (some .boolean)) (n := 2) (As := [.int s1, .int (1 : Int32)]) (st := []) hE (c_X5_fails K.2.1 h3) (by unfold okY; decide +kernel) rfl h4 rfl (C := RX5) (T := TX5) (N := 28) rfl m_127 m_124 m_125 m_126 m_5 rfl (by simp [Value.category]) (by decide) (by decide) dX5_about_24 ?_
  refine go_eq (pc' := 27) (st' := [.int r1]) (M' := M2) (lv' := [(0, .ref v0), (1, .int v1), (2, .int v2)]) ?_ rfl rfl rfl rfl
  refine go_if_eq (t := 32) hC dX5_about_27 (by decide) (fun c5 => ?_) (fun c5 => ?_)
  · have h := os_t h c5
    refine go_iload_n hC dX5_about_32 rfl 1 rfl ?_
    refine go_istore_n (lv' := [(3, .int v1), (0, .ref v0), (1, .int v1), (2, .int v2)]) hC dX5_about_33 rfl (by decide) rfl ?_
    refine go_iload_n hC dX5_about_34 rfl 3 rfl ?_
    refine go_if_ne (t := 45) hC dX5_about_35 (by decide) (fun c6 => ?_) (fun c6 => ?_)
    · have h := os_f h c6
      refine go_iload_n hC dX5_about_45 rfl 3 rfl ?_
      refine go_iconst hC dX5_about_46 (v := (1 : Int32)) (by decide +kernel) ?_
      refine go_icmp_ne (t := 57) hC dX5_about_47 (by decide) (fun c7 => ?_) (fun c7 => ?_)
      · have h := os_f h c7
        refine go_iload_n hC dX5_about_57 rfl 3 rfl ?_
        refine go_iconst hC dX5_about_58 (v := (2 : Int32)) (by decide +kernel) ?_
        refine go_icmp_ne (t := 69) hC dX5_about_59 (by decide) (fun c8 => ?_) (fun c8 => ?_)
        · have h := os_f h c8
          refine go_iconst hC dX5_about_69 (v := (0 : Int32)) (by decide +kernel) ?_
          refine go_istore (lv' := [(4, .int (0 : Int32)), (3, .int v1), (0, .ref v0), (1, .int v1), (2, .int v2)]) hC dX5_about_70 (by decide) rfl ?_
          refine go_iconst hC dX5_about_72 (v := (0 : Int32)) (by decide +kernel) ?_
          refine go_istore (lv' := [(5, .int (0 : Int32)), (4, .int (0 : Int32)), (3, .int v1), (0, .ref v0), (1, .int v1), (2, .int v2)]) hC dX5_about_73 (by decide) rfl ?_
          refine go_sub (lv' := [(0, .ref v0), (2, .int v2), (3, .int v1), (4, .int (0 : Int32)), (5, .int (0 : Int32))]) [3, 5, 2, 1, 0] rfl ?_
          exact tX5_about_75 hE k9 _ _ _ _ _ _ h
        · have h := os_t h c8
          refine go_aload_n hC dX5_about_62 rfl 1 rfl ?_
          obtain ⟨h9, h⟩ := os_1 h
          obtain ⟨b10, h11, h⟩ := os_b h
          refine go_getR 8 hC h9 rfl rfl h11 (C := RX5) (T := TX5) (N := 28) rfl inlX5 (by decide) m_82 (Or.inl rfl) dX5_about_63 ?_
          refine go_iload_n hC dX5_about_66 rfl 0 rfl ?_
          obtain ⟨h12, h⟩ := os_1 h
          refine go_iald hC h12.1 h12.2 dX5_about_67 ?_
          cases h
          exact go_iret hE dX5_about_68
      · have h := os_t h c7
        refine go_aload_n hC dX5_about_50 rfl 1 rfl ?_
        obtain ⟨h13, h⟩ := os_1 h
        obtain ⟨b14, h15, h⟩ := os_b h
        refine go_getR 6 hC h13 rfl rfl h15 (C := RX5) (T := TX5) (N := 28) rfl inlX5 (by decide) m_80 (Or.inl rfl) dX5_about_51 ?_
        refine go_iload_n hC dX5_about_54 rfl 0 rfl ?_
        obtain ⟨h16, h⟩ := os_1 h
        refine go_iald hC h16.1 h16.2 dX5_about_55 ?_
        cases h
        exact go_iret hE dX5_about_56
    · have h := os_t h c6
      refine go_aload_n hC dX5_about_38 rfl 1 rfl ?_
      obtain ⟨h17, h⟩ := os_1 h
      obtain ⟨b18, h19, h⟩ := os_b h
      refine go_getR 7 hC h17 rfl rfl h19 (C := RX5) (T := TX5) (N := 28) rfl inlX5 (by decide) m_81 (Or.inl rfl) dX5_about_39 ?_
      refine go_iload_n hC dX5_about_42 rfl 0 rfl ?_
      obtain ⟨h20, h⟩ := os_1 h
      refine go_iald hC h20.1 h20.2 dX5_about_43 ?_
      cases h
      exact go_iret hE dX5_about_44
  · have h := os_f h c5
    refine go_iconst hC dX5_about_30 (v := (0 : Int32)) (by decide +kernel) ?_
    cases h
    exact go_iret hE dX5_about_31
def fX5_about_18 (x9 : Cx) (k9 : Nat) (v0 : Nat) (v1 : Int32) (v2 : Int32) (s0 : Nat) (M : Mm) : Option (Int32 × Mm) :=
  fX5_about_23 x9 k9 v0 v1 v2 s0 (1 : Int32) M
set_option maxRecDepth 100000 in
set_option maxHeartbeats 4000000 in
theorem tX5_about_18 {x9 : Cx} {K : Ct} {k9 : Nat} {M0 M9 : Mm} {r9 : Int32} (hE : Ce x9 K RX5 cX5_about 6 (some .int) 1 22 "about" M0) (v0 : Nat) (v1 : Int32) (v2 : Int32) (s0 : Nat) (M : Mm) (h : fX5_about_18 x9 k9 v0 v1 v2 s0 M = some (r9, M9)) : Go x9 K 6 (Qf x9 K M0 (some (.int r9)) M9) 18 [(0, .ref v0), (1, .int v1), (2, .int v2)] [.ref s0] M := by
  have hC := hE.1
  have hnm := hE.2.2.2.2.2.2.2.1
  unfold fX5_about_18 at h
  refine go_iconst hC dX5_about_18 (v := (1 : Int32)) (by decide +kernel) ?_
  refine go_goto (t := 23) hC dX5_about_19 (by decide) ?_
  exact tX5_about_23 hE _ _ _ _ _ _ h
def fX5_about (x9 : Cx) (k9 : Nat) (v0 : Nat) (v1 : Int32) (v2 : Int32) (M : Mm) : Option (Int32 × Mm) :=
  if mK M v0 = 6 then ob2 (fX5_isOne x9 k9 v0 v1 M) (fun r1 M2 => if r1 = 0 then fX5_about_18 x9 k9 v0 v1 v2 v0 M2 else if v2 < 0 then fX5_about_18 x9 k9 v0 v1 v2 v0 M2 else if v2 ≤ (4 : Int32) then fX5_about_23 x9 k9 v0 v1 v2 v0 (0 : Int32) M2 else fX5_about_18 x9 k9 v0 v1 v2 v0 M2) else none
set_option maxRecDepth 100000 in
set_option maxHeartbeats 4000000 in
theorem tX5_about_0 {x9 : Cx} {K : Ct} {k9 : Nat} {M0 M9 : Mm} {r9 : Int32} (hE : Ce x9 K RX5 cX5_about 6 (some .int) 1 22 "about" M0) (v0 : Nat) (v1 : Int32) (v2 : Int32) (M : Mm) (h : fX5_about x9 k9 v0 v1 v2 M = some (r9, M9)) : Go x9 K 6 (Qf x9 K M0 (some (.int r9)) M9) 0 [(0, .ref v0), (1, .int v1), (2, .int v2)] [] M := by
  have hC := hE.1
  have hnm := hE.2.2.2.2.2.2.2.1
  unfold fX5_about at h
  refine go_aload_n hC dX5_about_0 rfl 0 rfl ?_
  refine go_aload_n hC dX5_about_1 rfl 0 rfl ?_
  refine go_iload_n hC dX5_about_2 rfl 1 rfl ?_
  obtain ⟨h4, h⟩ := os_1 h
  obtain ⟨r1, M2, h3, h⟩ := os_c h
  refine go_callV (bytes := cX5_isOne) (maxL := 2) (ret := (some .boolean)) (n := 1) (As := [.int v1]) (st := [.ref v0]) hE (c_X5_isOne K.2.1 h3) (by unfold okY; decide +kernel) rfl h4 rfl (C := RX5) (T := TX5) (N := 28) rfl m_301 m_298 m_299 m_300 m_5 rfl (by simp [Value.category]) (by decide) (by decide) dX5_about_3 ?_
  refine go_eq (pc' := 6) (st' := [.int r1, .ref v0]) (M' := M2) (lv' := [(0, .ref v0), (1, .int v1), (2, .int v2)]) ?_ rfl rfl rfl rfl
  refine go_if_eq (t := 18) hC dX5_about_6 (by decide) (fun c5 => ?_) (fun c5 => ?_)
  · have h := os_t h c5
    exact tX5_about_18 hE _ _ _ _ _ h
  · have h := os_f h c5
    refine go_iload_n hC dX5_about_9 rfl 2 rfl ?_
    refine go_if_lt (t := 18) hC dX5_about_10 (by decide) (fun c6 => ?_) (fun c6 => ?_)
    · have h := os_t h c6
      exact tX5_about_18 hE _ _ _ _ _ h
    · have h := os_f h c6
      refine go_iload_n hC dX5_about_13 rfl 2 rfl ?_
      refine go_iconst hC dX5_about_14 (v := (4 : Int32)) (by decide +kernel) ?_
      refine go_icmp_le (t := 22) hC dX5_about_15 (by decide) (fun c7 => ?_) (fun c7 => ?_)
      · have h := os_t h c7
        refine go_iconst hC dX5_about_22 (v := (0 : Int32)) (by decide +kernel) ?_
        exact tX5_about_23 hE _ _ _ _ _ _ h
      · have h := os_f h c7
        exact tX5_about_18 hE _ _ _ _ _ h
theorem c_X5_about (l : Launch) {x9 : Cx} {k9 : Nat} {M M9 : Mm} {r9 : Int32} {v0 : Nat} {v1 : Int32} {v2 : Int32} (h : fX5_about x9 k9 v0 v1 v2 M = some (r9, M9)) : Fn l x9 yX5_about cX5_about 6 (some .int) 1 22 [.ref v0, .int v1, .int v2] M (some (.int r9)) M9 :=
  Fn.of (by decide +kernel) (Nat.le_of_ble_eq_true rfl) rfl (fun K _ hE => tX5_about_0 hE _ _ _ _ h)
/-! X5_vector -/
def fX5_vector_43 (x9 : Cx) (k9 : Nat) (s0 : Int32) (M : Mm) : Option (Int32 × Mm) :=
  some (s0, M)
set_option maxRecDepth 100000 in
set_option maxHeartbeats 4000000 in
theorem tX5_vector_43 {x9 : Cx} {K : Ct} {k9 : Nat} {M0 M9 : Mm} {r9 : Int32} (hE : Ce x9 K RX5 cX5_vector 3 (some .int) 1 22 "vector" M0) (s0 : Int32) (M : Mm) (h : fX5_vector_43 x9 k9 s0 M = some (r9, M9)) : Go x9 K 3 (Qf x9 K M0 (some (.int r9)) M9) 43 [] [.int s0] M := by
  have hC := hE.1
  have hnm := hE.2.2.2.2.2.2.2.1
  unfold fX5_vector_43 at h
  cases h
  exact go_iret hE dX5_vector_43
def fX5_vector_22 (x9 : Cx) (k9 : Nat) (v0 : Nat) (v1 : Int32) (v2 : Int32) (s0 : Nat) (s1 : Int32) (M : Mm) : Option (Int32 × Mm) :=
  if mK M s0 = 6 then ob2 (fX5_fails x9 k9 s0 s1 (1 : Int32) M) (fun r1 M2 => if r1 = 0 then if mK M2 v0 = 6 then ob1 (mP M2 v0 1) (fun b7 => if mK M2 b7 = 8 ∧ ¬ ((((5 : Int32) * v1) + v2) < 0 ∨ mN M2 b7 ≤ ((((5 : Int32) * v1) + v2)).toNatClampNeg) then fX5_vector_43 x9 k9 (mV M2 b7 ((((5 : Int32) * v1) + v2)).toNatClampNeg) M2 else none) else none else fX5_vector_43 x9 k9 (0 : Int32) M2) else none
set_option maxRecDepth 100000 in
set_option maxHeartbeats 4000000 in
theorem tX5_vector_22 {x9 : Cx} {K : Ct} {k9 : Nat} {M0 M9 : Mm} {r9 : Int32} (hE : Ce x9 K RX5 cX5_vector 3 (some .int) 1 22 "vector" M0) (v0 : Nat) (v1 : Int32) (v2 : Int32) (s0 : Nat) (s1 : Int32) (M : Mm) (h : fX5_vector_22 x9 k9 v0 v1 v2 s0 s1 M = some (r9, M9)) : Go x9 K 3 (Qf x9 K M0 (some (.int r9)) M9) 22 [(0, .ref v0), (1, .int v1), (2, .int v2)] [.int s1, .ref s0] M := by
  have hC := hE.1
  have hnm := hE.2.2.2.2.2.2.2.1
  unfold fX5_vector_22 at h
  refine go_iconst hC dX5_vector_22 (v := (1 : Int32)) (by decide +kernel) ?_
  obtain ⟨h4, h⟩ := os_1 h
  obtain ⟨r1, M2, h3, h⟩ := os_c h
  refine go_callV (bytes := cX5_fails) (maxL := 3) (ret := (some .boolean)) (n := 2) (As := [.int s1, .int (1 : Int32)]) (st := []) hE (c_X5_fails K.2.1 h3) (by unfold okY; decide +kernel) rfl h4 rfl (C := RX5) (T := TX5) (N := 28) rfl m_127 m_124 m_125 m_126 m_5 rfl (by simp [Value.category]) (by decide) (by decide) dX5_vector_23 ?_
  refine go_eq (pc' := 26) (st' := [.int r1]) (M' := M2) (lv' := [(0, .ref v0), (1, .int v1), (2, .int v2)]) ?_ rfl rfl rfl rfl
  refine go_if_eq (t := 33) hC dX5_vector_26 (by decide) (fun c5 => ?_) (fun c5 => ?_)
  · have h := os_t h c5
    refine go_aload_n hC dX5_vector_33 rfl 0 rfl ?_
    obtain ⟨h6, h⟩ := os_1 h
    obtain ⟨b7, h8, h⟩ := os_b h
    refine go_getR 1 hC h6 rfl rfl h8 (C := RX5) (T := TX5) (N := 28) rfl inlX5 (by decide) m_76 (Or.inl rfl) dX5_vector_34 ?_
    refine go_iconst hC dX5_vector_37 (v := (5 : Int32)) (by decide +kernel) ?_
    refine go_iload_n hC dX5_vector_38 rfl 1 rfl ?_
    refine go_imul hC dX5_vector_39 ?_
    refine go_iload_n hC dX5_vector_40 rfl 2 rfl ?_
    refine go_iadd hC dX5_vector_41 ?_
    obtain ⟨h9, h⟩ := os_1 h
    refine go_iald hC h9.1 h9.2 dX5_vector_42 ?_
    refine go_sub (lv' := []) [] rfl ?_
    exact tX5_vector_43 hE _ _ h
  · have h := os_f h c5
    refine go_iconst hC dX5_vector_29 (v := (0 : Int32)) (by decide +kernel) ?_
    refine go_goto (t := 43) hC dX5_vector_30 (by decide) ?_
    refine go_sub (lv' := []) [] rfl ?_
    exact tX5_vector_43 hE _ _ h
def fX5_vector_17 (x9 : Cx) (k9 : Nat) (v0 : Nat) (v1 : Int32) (v2 : Int32) (s0 : Nat) (M : Mm) : Option (Int32 × Mm) :=
  fX5_vector_22 x9 k9 v0 v1 v2 s0 (1 : Int32) M
set_option maxRecDepth 100000 in
set_option maxHeartbeats 4000000 in
theorem tX5_vector_17 {x9 : Cx} {K : Ct} {k9 : Nat} {M0 M9 : Mm} {r9 : Int32} (hE : Ce x9 K RX5 cX5_vector 3 (some .int) 1 22 "vector" M0) (v0 : Nat) (v1 : Int32) (v2 : Int32) (s0 : Nat) (M : Mm) (h : fX5_vector_17 x9 k9 v0 v1 v2 s0 M = some (r9, M9)) : Go x9 K 3 (Qf x9 K M0 (some (.int r9)) M9) 17 [(0, .ref v0), (1, .int v1), (2, .int v2)] [.ref s0] M := by
  have hC := hE.1
  have hnm := hE.2.2.2.2.2.2.2.1
  unfold fX5_vector_17 at h
  refine go_iconst hC dX5_vector_17 (v := (1 : Int32)) (by decide +kernel) ?_
  refine go_goto (t := 22) hC dX5_vector_18 (by decide) ?_
  exact tX5_vector_22 hE _ _ _ _ _ _ h
def fX5_vector (x9 : Cx) (k9 : Nat) (v0 : Nat) (v1 : Int32) (v2 : Int32) (M : Mm) : Option (Int32 × Mm) :=
  if mK M v0 = 6 then ob2 (fX5_isSite x9 k9 v0 v1 M) (fun r1 M2 => if r1 = 0 then fX5_vector_17 x9 k9 v0 v1 v2 v0 M2 else if mK M2 v0 = 6 then ob2 (fX5_isSite x9 k9 v0 v2 M2) (fun r6 M7 => if r6 = 0 then fX5_vector_17 x9 k9 v0 v1 v2 v0 M7 else fX5_vector_22 x9 k9 v0 v1 v2 v0 (0 : Int32) M7) else none) else none
set_option maxRecDepth 100000 in
set_option maxHeartbeats 4000000 in
theorem tX5_vector_0 {x9 : Cx} {K : Ct} {k9 : Nat} {M0 M9 : Mm} {r9 : Int32} (hE : Ce x9 K RX5 cX5_vector 3 (some .int) 1 22 "vector" M0) (v0 : Nat) (v1 : Int32) (v2 : Int32) (M : Mm) (h : fX5_vector x9 k9 v0 v1 v2 M = some (r9, M9)) : Go x9 K 3 (Qf x9 K M0 (some (.int r9)) M9) 0 [(0, .ref v0), (1, .int v1), (2, .int v2)] [] M := by
  have hC := hE.1
  have hnm := hE.2.2.2.2.2.2.2.1
  unfold fX5_vector at h
  refine go_aload_n hC dX5_vector_0 rfl 0 rfl ?_
  refine go_aload_n hC dX5_vector_1 rfl 0 rfl ?_
  refine go_iload_n hC dX5_vector_2 rfl 1 rfl ?_
  obtain ⟨h4, h⟩ := os_1 h
  obtain ⟨r1, M2, h3, h⟩ := os_c h
  refine go_callV (bytes := cX5_isSite) (maxL := 2) (ret := (some .boolean)) (n := 1) (As := [.int v1]) (st := [.ref v0]) hE (c_X5_isSite K.2.1 h3) (by unfold okY; decide +kernel) rfl h4 rfl (C := RX5) (T := TX5) (N := 28) rfl m_256 m_253 m_254 m_255 m_5 rfl (by simp [Value.category]) (by decide) (by decide) dX5_vector_3 ?_
  refine go_eq (pc' := 6) (st' := [.int r1, .ref v0]) (M' := M2) (lv' := [(0, .ref v0), (1, .int v1), (2, .int v2)]) ?_ rfl rfl rfl rfl
  refine go_if_eq (t := 17) hC dX5_vector_6 (by decide) (fun c5 => ?_) (fun c5 => ?_)
  · have h := os_t h c5
    exact tX5_vector_17 hE _ _ _ _ _ h
  · have h := os_f h c5
    refine go_aload_n hC dX5_vector_9 rfl 0 rfl ?_
    refine go_iload_n hC dX5_vector_10 rfl 2 rfl ?_
    obtain ⟨h9, h⟩ := os_1 h
    obtain ⟨r6, M7, h8, h⟩ := os_c h
    refine go_callV (bytes := cX5_isSite) (maxL := 2) (ret := (some .boolean)) (n := 1) (As := [.int v2]) (st := [.ref v0]) hE (c_X5_isSite K.2.1 h8) (by unfold okY; decide +kernel) rfl h9 rfl (C := RX5) (T := TX5) (N := 28) rfl m_256 m_253 m_254 m_255 m_5 rfl (by simp [Value.category]) (by decide) (by decide) dX5_vector_11 ?_
    refine go_eq (pc' := 14) (st' := [.int r6, .ref v0]) (M' := M7) (lv' := [(0, .ref v0), (1, .int v1), (2, .int v2)]) ?_ rfl rfl rfl rfl
    refine go_if_ne (t := 21) hC dX5_vector_14 (by decide) (fun c10 => ?_) (fun c10 => ?_)
    · have h := os_f h c10
      refine go_iconst hC dX5_vector_21 (v := (0 : Int32)) (by decide +kernel) ?_
      exact tX5_vector_22 hE _ _ _ _ _ _ h
    · have h := os_t h c10
      exact tX5_vector_17 hE _ _ _ _ _ h
theorem c_X5_vector (l : Launch) {x9 : Cx} {k9 : Nat} {M M9 : Mm} {r9 : Int32} {v0 : Nat} {v1 : Int32} {v2 : Int32} (h : fX5_vector x9 k9 v0 v1 v2 M = some (r9, M9)) : Fn l x9 yX5_vector cX5_vector 3 (some .int) 1 22 [.ref v0, .int v1, .int v2] M (some (.int r9)) M9 :=
  Fn.of (by decide +kernel) (Nat.le_of_ble_eq_true rfl) rfl (fun K _ hE => tX5_vector_0 hE _ _ _ _ h)
/-! X5_value -/
def fX5_value_39 (x9 : Cx) (k9 : Nat) (s0 : Int32) (M : Mm) : Option (Int32 × Mm) :=
  some (s0, M)
set_option maxRecDepth 100000 in
set_option maxHeartbeats 4000000 in
theorem tX5_value_39 {x9 : Cx} {K : Ct} {k9 : Nat} {M0 M9 : Mm} {r9 : Int32} (hE : Ce x9 K RX5 cX5_value 3 (some .int) 2 49 "value" M0) (s0 : Int32) (M : Mm) (h : fX5_value_39 x9 k9 s0 M = some (r9, M9)) : Go x9 K 3 (Qf x9 K M0 (some (.int r9)) M9) 39 [] [.int s0] M := by
  have hC := hE.1
  have hnm := hE.2.2.2.2.2.2.2.1
  unfold fX5_value_39 at h
  cases h
  exact go_iret hE dX5_value_39
def fX5_value_21 (x9 : Cx) (k9 : Nat) (v0 : Nat) (v1 : Int32) (v2 : Int32) (s0 : Nat) (s1 : Int32) (M : Mm) : Option (Int32 × Mm) :=
  if mK M s0 = 6 then ob2 (fX5_fails x9 k9 s0 s1 (1 : Int32) M) (fun r1 M2 => if r1 = 0 then if mK M2 v0 = 6 then ob2 (fX5_latest x9 k9 v0 v1 v2 (-1 : Int32) M2) (fun r6 M7 => fX5_value_39 x9 k9 r6 M7) else none else fX5_value_39 x9 k9 (0 : Int32) M2) else none
set_option maxRecDepth 100000 in
set_option maxHeartbeats 4000000 in
theorem tX5_value_21 {x9 : Cx} {K : Ct} {k9 : Nat} {M0 M9 : Mm} {r9 : Int32} (hE : Ce x9 K RX5 cX5_value 3 (some .int) 2 49 "value" M0) (v0 : Nat) (v1 : Int32) (v2 : Int32) (s0 : Nat) (s1 : Int32) (M : Mm) (h : fX5_value_21 x9 k9 v0 v1 v2 s0 s1 M = some (r9, M9)) : Go x9 K 3 (Qf x9 K M0 (some (.int r9)) M9) 21 [(0, .ref v0), (1, .int v1), (2, .int v2)] [.int s1, .ref s0] M := by
  have hC := hE.1
  have hnm := hE.2.2.2.2.2.2.2.1
  unfold fX5_value_21 at h
  refine go_iconst hC dX5_value_21 (v := (1 : Int32)) (by decide +kernel) ?_
  obtain ⟨h4, h⟩ := os_1 h
  obtain ⟨r1, M2, h3, h⟩ := os_c h
  refine go_callV (bytes := cX5_fails) (maxL := 3) (ret := (some .boolean)) (n := 2) (As := [.int s1, .int (1 : Int32)]) (st := []) hE (c_X5_fails K.2.1 h3) (by unfold okY; decide +kernel) rfl h4 rfl (C := RX5) (T := TX5) (N := 28) rfl m_127 m_124 m_125 m_126 m_5 rfl (by simp [Value.category]) (by decide) (by decide) dX5_value_22 ?_
  refine go_eq (pc' := 25) (st' := [.int r1]) (M' := M2) (lv' := [(0, .ref v0), (1, .int v1), (2, .int v2)]) ?_ rfl rfl rfl rfl
  refine go_if_eq (t := 32) hC dX5_value_25 (by decide) (fun c5 => ?_) (fun c5 => ?_)
  · have h := os_t h c5
    refine go_aload_n hC dX5_value_32 rfl 0 rfl ?_
    refine go_iload_n hC dX5_value_33 rfl 1 rfl ?_
    refine go_iload_n hC dX5_value_34 rfl 2 rfl ?_
    refine go_iconst hC dX5_value_35 (v := (-1 : Int32)) (by decide +kernel) ?_
    obtain ⟨h9, h⟩ := os_1 h
    obtain ⟨r6, M7, h8, h⟩ := os_c h
    refine go_callV (bytes := cX5_latest) (maxL := 8) (ret := (some .int)) (n := 3) (As := [.int v1, .int v2, .int (-1 : Int32)]) (st := []) hE (c_X5_latest K.2.1 h8) (by unfold okY; decide +kernel) rfl h9 rfl (C := RX5) (T := TX5) (N := 28) rfl m_308 m_305 m_306 m_307 m_5 rfl (by simp [Value.category]) (by decide) (by decide) dX5_value_36 ?_
    refine go_eq (pc' := 39) (st' := [.int r6]) (M' := M7) (lv' := [(0, .ref v0), (1, .int v1), (2, .int v2)]) ?_ rfl rfl rfl rfl
    refine go_sub (lv' := []) [] rfl ?_
    exact tX5_value_39 hE _ _ h
  · have h := os_f h c5
    refine go_iconst hC dX5_value_28 (v := (0 : Int32)) (by decide +kernel) ?_
    refine go_goto (t := 39) hC dX5_value_29 (by decide) ?_
    refine go_sub (lv' := []) [] rfl ?_
    exact tX5_value_39 hE _ _ h
def fX5_value_16 (x9 : Cx) (k9 : Nat) (v0 : Nat) (v1 : Int32) (v2 : Int32) (s0 : Nat) (M : Mm) : Option (Int32 × Mm) :=
  fX5_value_21 x9 k9 v0 v1 v2 s0 (1 : Int32) M
set_option maxRecDepth 100000 in
set_option maxHeartbeats 4000000 in
theorem tX5_value_16 {x9 : Cx} {K : Ct} {k9 : Nat} {M0 M9 : Mm} {r9 : Int32} (hE : Ce x9 K RX5 cX5_value 3 (some .int) 2 49 "value" M0) (v0 : Nat) (v1 : Int32) (v2 : Int32) (s0 : Nat) (M : Mm) (h : fX5_value_16 x9 k9 v0 v1 v2 s0 M = some (r9, M9)) : Go x9 K 3 (Qf x9 K M0 (some (.int r9)) M9) 16 [(0, .ref v0), (1, .int v1), (2, .int v2)] [.ref s0] M := by
  have hC := hE.1
  have hnm := hE.2.2.2.2.2.2.2.1
  unfold fX5_value_16 at h
  refine go_iconst hC dX5_value_16 (v := (1 : Int32)) (by decide +kernel) ?_
  refine go_goto (t := 21) hC dX5_value_17 (by decide) ?_
  exact tX5_value_21 hE _ _ _ _ _ _ h
def fX5_value (x9 : Cx) (k9 : Nat) (v0 : Nat) (v1 : Int32) (v2 : Int32) (M : Mm) : Option (Int32 × Mm) :=
  if mK M v0 = 6 then ob2 (fX5_isSite x9 k9 v0 v1 M) (fun r1 M2 => if r1 = 0 then fX5_value_16 x9 k9 v0 v1 v2 v0 M2 else ob2 (fX5_isObject x9 k9 v2 M2) (fun r6 M7 => if r6 = 0 then fX5_value_16 x9 k9 v0 v1 v2 v0 M7 else fX5_value_21 x9 k9 v0 v1 v2 v0 (0 : Int32) M7)) else none
set_option maxRecDepth 100000 in
set_option maxHeartbeats 4000000 in
theorem tX5_value_0 {x9 : Cx} {K : Ct} {k9 : Nat} {M0 M9 : Mm} {r9 : Int32} (hE : Ce x9 K RX5 cX5_value 3 (some .int) 2 49 "value" M0) (v0 : Nat) (v1 : Int32) (v2 : Int32) (M : Mm) (h : fX5_value x9 k9 v0 v1 v2 M = some (r9, M9)) : Go x9 K 3 (Qf x9 K M0 (some (.int r9)) M9) 0 [(0, .ref v0), (1, .int v1), (2, .int v2)] [] M := by
  have hC := hE.1
  have hnm := hE.2.2.2.2.2.2.2.1
  unfold fX5_value at h
  refine go_aload_n hC dX5_value_0 rfl 0 rfl ?_
  refine go_aload_n hC dX5_value_1 rfl 0 rfl ?_
  refine go_iload_n hC dX5_value_2 rfl 1 rfl ?_
  obtain ⟨h4, h⟩ := os_1 h
  obtain ⟨r1, M2, h3, h⟩ := os_c h
  refine go_callV (bytes := cX5_isSite) (maxL := 2) (ret := (some .boolean)) (n := 1) (As := [.int v1]) (st := [.ref v0]) hE (c_X5_isSite K.2.1 h3) (by unfold okY; decide +kernel) rfl h4 rfl (C := RX5) (T := TX5) (N := 28) rfl m_256 m_253 m_254 m_255 m_5 rfl (by simp [Value.category]) (by decide) (by decide) dX5_value_3 ?_
  refine go_eq (pc' := 6) (st' := [.int r1, .ref v0]) (M' := M2) (lv' := [(0, .ref v0), (1, .int v1), (2, .int v2)]) ?_ rfl rfl rfl rfl
  refine go_if_eq (t := 16) hC dX5_value_6 (by decide) (fun c5 => ?_) (fun c5 => ?_)
  · have h := os_t h c5
    exact tX5_value_16 hE _ _ _ _ _ h
  · have h := os_f h c5
    refine go_iload_n hC dX5_value_9 rfl 2 rfl ?_
    obtain ⟨r6, M7, h8, h⟩ := os_c h
    refine go_callS (bytes := cX5_isObject) (maxL := 1) (ret := (some .boolean)) (n := 1) (As := [.int v2]) (st := [.ref v0]) hE (c_X5_isObject K.2.1 h8) (by unfold okY; decide +kernel) rfl m_304 m_302 m_303 m_5 rfl (by simp [Value.category]) (by decide) (by decide) dX5_value_10 ?_
    refine go_eq (pc' := 13) (st' := [.int r6, .ref v0]) (M' := M7) (lv' := [(0, .ref v0), (1, .int v1), (2, .int v2)]) ?_ rfl rfl rfl rfl
    refine go_if_ne (t := 20) hC dX5_value_13 (by decide) (fun c10 => ?_) (fun c10 => ?_)
    · have h := os_f h c10
      refine go_iconst hC dX5_value_20 (v := (0 : Int32)) (by decide +kernel) ?_
      exact tX5_value_21 hE _ _ _ _ _ _ h
    · have h := os_t h c10
      exact tX5_value_16 hE _ _ _ _ _ h
theorem c_X5_value (l : Launch) {x9 : Cx} {k9 : Nat} {M M9 : Mm} {r9 : Int32} {v0 : Nat} {v1 : Int32} {v2 : Int32} (h : fX5_value x9 k9 v0 v1 v2 M = some (r9, M9)) : Fn l x9 yX5_value cX5_value 3 (some .int) 2 49 [.ref v0, .int v1, .int v2] M (some (.int r9)) M9 :=
  Fn.of (by decide +kernel) (Nat.le_of_ble_eq_true rfl) rfl (fun K _ hE => tX5_value_0 hE _ _ _ _ h)
/-! X5_locked -/
def fX5_locked_43 (x9 : Cx) (k9 : Nat) (s0 : Int32) (M : Mm) : Option (Int32 × Mm) :=
  some (s0, M)
set_option maxRecDepth 100000 in
set_option maxHeartbeats 4000000 in
theorem tX5_locked_43 {x9 : Cx} {K : Ct} {k9 : Nat} {M0 M9 : Mm} {r9 : Int32} (hE : Ce x9 K RX5 cX5_locked 3 (some .int) 1 22 "locked" M0) (s0 : Int32) (M : Mm) (h : fX5_locked_43 x9 k9 s0 M = some (r9, M9)) : Go x9 K 3 (Qf x9 K M0 (some (.int r9)) M9) 43 [] [.int s0] M := by
  have hC := hE.1
  have hnm := hE.2.2.2.2.2.2.2.1
  unfold fX5_locked_43 at h
  cases h
  exact go_iret hE dX5_locked_43
def fX5_locked_21 (x9 : Cx) (k9 : Nat) (v0 : Nat) (v1 : Int32) (v2 : Int32) (s0 : Nat) (s1 : Int32) (M : Mm) : Option (Int32 × Mm) :=
  if mK M s0 = 6 then ob2 (fX5_fails x9 k9 s0 s1 (1 : Int32) M) (fun r1 M2 => if r1 = 0 then if mK M2 v0 = 6 then ob1 (mP M2 v0 3) (fun b7 => if mK M2 b7 = 8 ∧ ¬ ((((20 : Int32) * v1) + v2) < 0 ∨ mN M2 b7 ≤ ((((20 : Int32) * v1) + v2)).toNatClampNeg) then fX5_locked_43 x9 k9 (mV M2 b7 ((((20 : Int32) * v1) + v2)).toNatClampNeg) M2 else none) else none else fX5_locked_43 x9 k9 (0 : Int32) M2) else none
set_option maxRecDepth 100000 in
set_option maxHeartbeats 4000000 in
theorem tX5_locked_21 {x9 : Cx} {K : Ct} {k9 : Nat} {M0 M9 : Mm} {r9 : Int32} (hE : Ce x9 K RX5 cX5_locked 3 (some .int) 1 22 "locked" M0) (v0 : Nat) (v1 : Int32) (v2 : Int32) (s0 : Nat) (s1 : Int32) (M : Mm) (h : fX5_locked_21 x9 k9 v0 v1 v2 s0 s1 M = some (r9, M9)) : Go x9 K 3 (Qf x9 K M0 (some (.int r9)) M9) 21 [(0, .ref v0), (1, .int v1), (2, .int v2)] [.int s1, .ref s0] M := by
  have hC := hE.1
  have hnm := hE.2.2.2.2.2.2.2.1
  unfold fX5_locked_21 at h
  refine go_iconst hC dX5_locked_21 (v := (1 : Int32)) (by decide +kernel) ?_
  obtain ⟨h4, h⟩ := os_1 h
  obtain ⟨r1, M2, h3, h⟩ := os_c h
  refine go_callV (bytes := cX5_fails) (maxL := 3) (ret := (some .boolean)) (n := 2) (As := [.int s1, .int (1 : Int32)]) (st := []) hE (c_X5_fails K.2.1 h3) (by unfold okY; decide +kernel) rfl h4 rfl (C := RX5) (T := TX5) (N := 28) rfl m_127 m_124 m_125 m_126 m_5 rfl (by simp [Value.category]) (by decide) (by decide) dX5_locked_22 ?_
  refine go_eq (pc' := 25) (st' := [.int r1]) (M' := M2) (lv' := [(0, .ref v0), (1, .int v1), (2, .int v2)]) ?_ rfl rfl rfl rfl
  refine go_if_eq (t := 32) hC dX5_locked_25 (by decide) (fun c5 => ?_) (fun c5 => ?_)
  · have h := os_t h c5
    refine go_aload_n hC dX5_locked_32 rfl 0 rfl ?_
    obtain ⟨h6, h⟩ := os_1 h
    obtain ⟨b7, h8, h⟩ := os_b h
    refine go_getR 3 hC h6 rfl rfl h8 (C := RX5) (T := TX5) (N := 28) rfl inlX5 (by decide) m_79 (Or.inl rfl) dX5_locked_33 ?_
    refine go_bipush hC dX5_locked_36 (v := (20 : Int32)) (by decide +kernel) ?_
    refine go_iload_n hC dX5_locked_38 rfl 1 rfl ?_
    refine go_imul hC dX5_locked_39 ?_
    refine go_iload_n hC dX5_locked_40 rfl 2 rfl ?_
    refine go_iadd hC dX5_locked_41 ?_
    obtain ⟨h9, h⟩ := os_1 h
    refine go_iald hC h9.1 h9.2 dX5_locked_42 ?_
    refine go_sub (lv' := []) [] rfl ?_
    exact tX5_locked_43 hE _ _ h
  · have h := os_f h c5
    refine go_iconst hC dX5_locked_28 (v := (0 : Int32)) (by decide +kernel) ?_
    refine go_goto (t := 43) hC dX5_locked_29 (by decide) ?_
    refine go_sub (lv' := []) [] rfl ?_
    exact tX5_locked_43 hE _ _ h
def fX5_locked_16 (x9 : Cx) (k9 : Nat) (v0 : Nat) (v1 : Int32) (v2 : Int32) (s0 : Nat) (M : Mm) : Option (Int32 × Mm) :=
  fX5_locked_21 x9 k9 v0 v1 v2 s0 (1 : Int32) M
set_option maxRecDepth 100000 in
set_option maxHeartbeats 4000000 in
theorem tX5_locked_16 {x9 : Cx} {K : Ct} {k9 : Nat} {M0 M9 : Mm} {r9 : Int32} (hE : Ce x9 K RX5 cX5_locked 3 (some .int) 1 22 "locked" M0) (v0 : Nat) (v1 : Int32) (v2 : Int32) (s0 : Nat) (M : Mm) (h : fX5_locked_16 x9 k9 v0 v1 v2 s0 M = some (r9, M9)) : Go x9 K 3 (Qf x9 K M0 (some (.int r9)) M9) 16 [(0, .ref v0), (1, .int v1), (2, .int v2)] [.ref s0] M := by
  have hC := hE.1
  have hnm := hE.2.2.2.2.2.2.2.1
  unfold fX5_locked_16 at h
  refine go_iconst hC dX5_locked_16 (v := (1 : Int32)) (by decide +kernel) ?_
  refine go_goto (t := 21) hC dX5_locked_17 (by decide) ?_
  exact tX5_locked_21 hE _ _ _ _ _ _ h
def fX5_locked (x9 : Cx) (k9 : Nat) (v0 : Nat) (v1 : Int32) (v2 : Int32) (M : Mm) : Option (Int32 × Mm) :=
  if mK M v0 = 6 then ob2 (fX5_isSite x9 k9 v0 v1 M) (fun r1 M2 => if r1 = 0 then fX5_locked_16 x9 k9 v0 v1 v2 v0 M2 else ob2 (fX5_isObject x9 k9 v2 M2) (fun r6 M7 => if r6 = 0 then fX5_locked_16 x9 k9 v0 v1 v2 v0 M7 else fX5_locked_21 x9 k9 v0 v1 v2 v0 (0 : Int32) M7)) else none
set_option maxRecDepth 100000 in
set_option maxHeartbeats 4000000 in
theorem tX5_locked_0 {x9 : Cx} {K : Ct} {k9 : Nat} {M0 M9 : Mm} {r9 : Int32} (hE : Ce x9 K RX5 cX5_locked 3 (some .int) 1 22 "locked" M0) (v0 : Nat) (v1 : Int32) (v2 : Int32) (M : Mm) (h : fX5_locked x9 k9 v0 v1 v2 M = some (r9, M9)) : Go x9 K 3 (Qf x9 K M0 (some (.int r9)) M9) 0 [(0, .ref v0), (1, .int v1), (2, .int v2)] [] M := by
  have hC := hE.1
  have hnm := hE.2.2.2.2.2.2.2.1
  unfold fX5_locked at h
  refine go_aload_n hC dX5_locked_0 rfl 0 rfl ?_
  refine go_aload_n hC dX5_locked_1 rfl 0 rfl ?_
  refine go_iload_n hC dX5_locked_2 rfl 1 rfl ?_
  obtain ⟨h4, h⟩ := os_1 h
  obtain ⟨r1, M2, h3, h⟩ := os_c h
  refine go_callV (bytes := cX5_isSite) (maxL := 2) (ret := (some .boolean)) (n := 1) (As := [.int v1]) (st := [.ref v0]) hE (c_X5_isSite K.2.1 h3) (by unfold okY; decide +kernel) rfl h4 rfl (C := RX5) (T := TX5) (N := 28) rfl m_256 m_253 m_254 m_255 m_5 rfl (by simp [Value.category]) (by decide) (by decide) dX5_locked_3 ?_
  refine go_eq (pc' := 6) (st' := [.int r1, .ref v0]) (M' := M2) (lv' := [(0, .ref v0), (1, .int v1), (2, .int v2)]) ?_ rfl rfl rfl rfl
  refine go_if_eq (t := 16) hC dX5_locked_6 (by decide) (fun c5 => ?_) (fun c5 => ?_)
  · have h := os_t h c5
    exact tX5_locked_16 hE _ _ _ _ _ h
  · have h := os_f h c5
    refine go_iload_n hC dX5_locked_9 rfl 2 rfl ?_
    obtain ⟨r6, M7, h8, h⟩ := os_c h
    refine go_callS (bytes := cX5_isObject) (maxL := 1) (ret := (some .boolean)) (n := 1) (As := [.int v2]) (st := [.ref v0]) hE (c_X5_isObject K.2.1 h8) (by unfold okY; decide +kernel) rfl m_304 m_302 m_303 m_5 rfl (by simp [Value.category]) (by decide) (by decide) dX5_locked_10 ?_
    refine go_eq (pc' := 13) (st' := [.int r6, .ref v0]) (M' := M7) (lv' := [(0, .ref v0), (1, .int v1), (2, .int v2)]) ?_ rfl rfl rfl rfl
    refine go_if_ne (t := 20) hC dX5_locked_13 (by decide) (fun c10 => ?_) (fun c10 => ?_)
    · have h := os_f h c10
      refine go_iconst hC dX5_locked_20 (v := (0 : Int32)) (by decide +kernel) ?_
      exact tX5_locked_21 hE _ _ _ _ _ _ h
    · have h := os_t h c10
      exact tX5_locked_16 hE _ _ _ _ _ h
theorem c_X5_locked (l : Launch) {x9 : Cx} {k9 : Nat} {M M9 : Mm} {r9 : Int32} {v0 : Nat} {v1 : Int32} {v2 : Int32} (h : fX5_locked x9 k9 v0 v1 v2 M = some (r9, M9)) : Fn l x9 yX5_locked cX5_locked 3 (some .int) 1 22 [.ref v0, .int v1, .int v2] M (some (.int r9)) M9 :=
  Fn.of (by decide +kernel) (Nat.le_of_ble_eq_true rfl) rfl (fun K _ hE => tX5_locked_0 hE _ _ _ _ h)
/-! X5_total -/
def fX5_total_133 (x9 : Cx) (k9 : Nat) (v2 : Int32) (M : Mm) : Option (Int32 × Mm) :=
  some (v2, M)
set_option maxRecDepth 100000 in
set_option maxHeartbeats 4000000 in
theorem tX5_total_133 {x9 : Cx} {K : Ct} {k9 : Nat} {M0 M9 : Mm} {r9 : Int32} (hE : Ce x9 K RX5 cX5_total 4 (some .int) 1 22 "total" M0) (v2 : Int32) (M : Mm) (h : fX5_total_133 x9 k9 v2 M = some (r9, M9)) : Go x9 K 4 (Qf x9 K M0 (some (.int r9)) M9) 133 [(2, .int v2)] [] M := by
  have hC := hE.1
  have hnm := hE.2.2.2.2.2.2.2.1
  unfold fX5_total_133 at h
  refine go_iload_n hC dX5_total_133 rfl 0 rfl ?_
  cases h
  exact go_iret hE dX5_total_134
def fX5_total_125 (x9 : Cx) (k9 : Nat) (rec97 : Nat → Int32 → Int32 → Int32 → Mm → Option (Int32 × Mm)) (v0 : Nat) (v1 : Int32) (v3 : Int32) (s0 : Int32) (s1 : Int32) (M : Mm) : Option (Int32 × Mm) :=
  rec97 v0 v1 (s0 + s1) (v3 + 1) M
set_option maxRecDepth 100000 in
set_option maxHeartbeats 4000000 in
theorem tX5_total_125 {x9 : Cx} {K : Ct} {k9 : Nat} {M0 M9 : Mm} {r9 : Int32} (hE : Ce x9 K RX5 cX5_total 4 (some .int) 1 22 "total" M0) {rec97 : Nat → Int32 → Int32 → Int32 → Mm → Option (Int32 × Mm)} (hrec97 : ∀ (v0 : Nat) (v1 : Int32) (v2 : Int32) (v3 : Int32) (M : Mm), rec97 v0 v1 v2 v3 M = some (r9, M9) → Go x9 K 4 (Qf x9 K M0 (some (.int r9)) M9) 97 [(0, .ref v0), (1, .int v1), (2, .int v2), (3, .int v3)] [] M) (v0 : Nat) (v1 : Int32) (v3 : Int32) (s0 : Int32) (s1 : Int32) (M : Mm) (h : fX5_total_125 x9 k9 rec97 v0 v1 v3 s0 s1 M = some (r9, M9)) : Go x9 K 4 (Qf x9 K M0 (some (.int r9)) M9) 125 [(0, .ref v0), (1, .int v1), (3, .int v3)] [.int s1, .int s0] M := by
  have hC := hE.1
  have hnm := hE.2.2.2.2.2.2.2.1
  unfold fX5_total_125 at h
  refine go_iadd hC dX5_total_125 ?_
  refine go_istore_n (lv' := [(2, .int (s0 + s1)), (0, .ref v0), (1, .int v1), (3, .int v3)]) hC dX5_total_126 rfl (by decide) rfl ?_
  refine go_iinc (q := 3) (v := (v3 + 1)) (lv' := [(3, .int (v3 + 1)), (2, .int (s0 + s1)), (0, .ref v0), (1, .int v1)]) hC dX5_total_127 rfl rfl (by decide) rfl ?_
  refine go_goto (t := 97) hC dX5_total_130 (by decide) ?_
  refine go_sub (lv' := [(0, .ref v0), (1, .int v1), (2, .int (s0 + s1)), (3, .int (v3 + 1))]) [2, 3, 1, 0] rfl ?_
  exact hrec97 _ _ _ _ _ h
def fX5_total_97 (x9 : Cx) (k9 : Nat) : Nat → Nat → Int32 → Int32 → Int32 → Mm → Option (Int32 × Mm)
  | 0, _, _, _, _, _ => none
  | n9 + 1, v0, v1, v2, v3, M => if mK M v0 = 6 then if (mV M v0 0) ≤ v3 then fX5_total_133 x9 k9 v2 M else if v1 = (4 : Int32) then if mK M v0 = 6 then ob1 (mP M v0 2) (fun b5 => if mK M b5 = 9 ∧ ¬ (v3 < 0 ∨ mN M b5 ≤ (v3).toNatClampNeg) then if (mV M b5 (v3).toNatClampNeg) = 0 then fX5_total_125 x9 k9 (fX5_total_97 x9 k9 n9) v0 v1 v3 v2 (1 : Int32) M else fX5_total_125 x9 k9 (fX5_total_97 x9 k9 n9) v0 v1 v3 v2 (0 : Int32) M else none) else none else fX5_total_133 x9 k9 v2 M else none
set_option maxRecDepth 100000 in
set_option maxHeartbeats 4000000 in
theorem tX5_total_97 {x9 : Cx} {K : Ct} {k9 : Nat} {M0 M9 : Mm} {r9 : Int32} (hE : Ce x9 K RX5 cX5_total 4 (some .int) 1 22 "total" M0) : ∀ (n9 : Nat) (v0 : Nat) (v1 : Int32) (v2 : Int32) (v3 : Int32) (M : Mm), fX5_total_97 x9 k9 n9 v0 v1 v2 v3 M = some (r9, M9) → Go x9 K 4 (Qf x9 K M0 (some (.int r9)) M9) 97 [(0, .ref v0), (1, .int v1), (2, .int v2), (3, .int v3)] [] M := by
  have hC := hE.1
  have hnm := hE.2.2.2.2.2.2.2.1
  intro n9
  induction n9 with
  | zero => intro _ _ _ _ _ h; cases h
  | succ n9 ih =>
    intro v0 v1 v2 v3 M h
    rw [fX5_total_97] at h
    refine go_iload_n hC dX5_total_97 rfl 3 rfl ?_
    refine go_aload_n hC dX5_total_98 rfl 0 rfl ?_
    obtain ⟨h1, h⟩ := os_1 h
    refine go_getV 0 hC h1 rfl rfl (C := RX5) (T := TX5) (N := 28) rfl inlX5 (by decide) m_75 (Or.inl rfl) dX5_total_99 ?_
    refine go_icmp_ge (t := 133) hC dX5_total_102 (by decide) (fun c2 => ?_) (fun c2 => ?_)
    · have h := os_t h c2
      refine go_sub (lv' := [(2, .int v2)]) [2] rfl ?_
      exact tX5_total_133 hE _ _ h
    · have h := os_f h c2
      refine go_iload_n hC dX5_total_105 rfl 1 rfl ?_
      refine go_iconst hC dX5_total_106 (v := (4 : Int32)) (by decide +kernel) ?_
      refine go_icmp_ne (t := 133) hC dX5_total_107 (by decide) (fun c3 => ?_) (fun c3 => ?_)
      · have h := os_f h c3
        refine go_sub (lv' := [(2, .int v2)]) [2] rfl ?_
        exact tX5_total_133 hE _ _ h
      · have h := os_t h c3
        refine go_iload_n hC dX5_total_110 rfl 2 rfl ?_
        refine go_aload_n hC dX5_total_111 rfl 0 rfl ?_
        obtain ⟨h4, h⟩ := os_1 h
        obtain ⟨b5, h6, h⟩ := os_b h
        refine go_getR 2 hC h4 rfl rfl h6 (C := RX5) (T := TX5) (N := 28) rfl inlX5 (by decide) m_78 (Or.inl rfl) dX5_total_112 ?_
        refine go_iload_n hC dX5_total_115 rfl 3 rfl ?_
        obtain ⟨h7, h⟩ := os_1 h
        refine go_zald hC h7.1 h7.2 dX5_total_116 ?_
        refine go_if_eq (t := 124) hC dX5_total_117 (by decide) (fun c8 => ?_) (fun c8 => ?_)
        · have h := os_t h c8
          refine go_iconst hC dX5_total_124 (v := (1 : Int32)) (by decide +kernel) ?_
          refine go_sub (lv' := [(0, .ref v0), (1, .int v1), (3, .int v3)]) [0, 1, 3] rfl ?_
          exact tX5_total_125 hE ih _ _ _ _ _ _ h
        · have h := os_f h c8
          refine go_iconst hC dX5_total_120 (v := (0 : Int32)) (by decide +kernel) ?_
          refine go_goto (t := 125) hC dX5_total_121 (by decide) ?_
          refine go_sub (lv' := [(0, .ref v0), (1, .int v1), (3, .int v3)]) [0, 1, 3] rfl ?_
          exact tX5_total_125 hE ih _ _ _ _ _ _ h
def fX5_total_95 (x9 : Cx) (k9 : Nat) (v0 : Nat) (v1 : Int32) (v2 : Int32) (M : Mm) : Option (Int32 × Mm) :=
  fX5_total_97 x9 k9 k9 v0 v1 v2 (0 : Int32) M
set_option maxRecDepth 100000 in
set_option maxHeartbeats 4000000 in
theorem tX5_total_95 {x9 : Cx} {K : Ct} {k9 : Nat} {M0 M9 : Mm} {r9 : Int32} (hE : Ce x9 K RX5 cX5_total 4 (some .int) 1 22 "total" M0) (v0 : Nat) (v1 : Int32) (v2 : Int32) (M : Mm) (h : fX5_total_95 x9 k9 v0 v1 v2 M = some (r9, M9)) : Go x9 K 4 (Qf x9 K M0 (some (.int r9)) M9) 95 [(0, .ref v0), (1, .int v1), (2, .int v2)] [] M := by
  have hC := hE.1
  have hnm := hE.2.2.2.2.2.2.2.1
  unfold fX5_total_95 at h
  refine go_iconst hC dX5_total_95 (v := (0 : Int32)) (by decide +kernel) ?_
  refine go_istore_n (lv' := [(3, .int (0 : Int32)), (0, .ref v0), (1, .int v1), (2, .int v2)]) hC dX5_total_96 rfl (by decide) rfl ?_
  refine go_sub (lv' := [(0, .ref v0), (1, .int v1), (2, .int v2), (3, .int (0 : Int32))]) [1, 2, 3, 0] rfl ?_
  exact tX5_total_97 hE k9 _ _ _ _ _ h
def fX5_total_87 (x9 : Cx) (k9 : Nat) (rec57 : Nat → Int32 → Int32 → Int32 → Mm → Option (Int32 × Mm)) (v0 : Nat) (v1 : Int32) (v3 : Int32) (s0 : Int32) (s1 : Int32) (M : Mm) : Option (Int32 × Mm) :=
  rec57 v0 v1 (s0 + s1) (v3 + 1) M
set_option maxRecDepth 100000 in
set_option maxHeartbeats 4000000 in
theorem tX5_total_87 {x9 : Cx} {K : Ct} {k9 : Nat} {M0 M9 : Mm} {r9 : Int32} (hE : Ce x9 K RX5 cX5_total 4 (some .int) 1 22 "total" M0) {rec57 : Nat → Int32 → Int32 → Int32 → Mm → Option (Int32 × Mm)} (hrec57 : ∀ (v0 : Nat) (v1 : Int32) (v2 : Int32) (v3 : Int32) (M : Mm), rec57 v0 v1 v2 v3 M = some (r9, M9) → Go x9 K 4 (Qf x9 K M0 (some (.int r9)) M9) 57 [(0, .ref v0), (1, .int v1), (2, .int v2), (3, .int v3)] [] M) (v0 : Nat) (v1 : Int32) (v3 : Int32) (s0 : Int32) (s1 : Int32) (M : Mm) (h : fX5_total_87 x9 k9 rec57 v0 v1 v3 s0 s1 M = some (r9, M9)) : Go x9 K 4 (Qf x9 K M0 (some (.int r9)) M9) 87 [(0, .ref v0), (1, .int v1), (3, .int v3)] [.int s1, .int s0] M := by
  have hC := hE.1
  have hnm := hE.2.2.2.2.2.2.2.1
  unfold fX5_total_87 at h
  refine go_iadd hC dX5_total_87 ?_
  refine go_istore_n (lv' := [(2, .int (s0 + s1)), (0, .ref v0), (1, .int v1), (3, .int v3)]) hC dX5_total_88 rfl (by decide) rfl ?_
  refine go_iinc (q := 3) (v := (v3 + 1)) (lv' := [(3, .int (v3 + 1)), (2, .int (s0 + s1)), (0, .ref v0), (1, .int v1)]) hC dX5_total_89 rfl rfl (by decide) rfl ?_
  refine go_goto (t := 57) hC dX5_total_92 (by decide) ?_
  refine go_sub (lv' := [(0, .ref v0), (1, .int v1), (2, .int (s0 + s1)), (3, .int (v3 + 1))]) [2, 3, 1, 0] rfl ?_
  exact hrec57 _ _ _ _ _ h
def fX5_total_57 (x9 : Cx) (k9 : Nat) : Nat → Nat → Int32 → Int32 → Int32 → Mm → Option (Int32 × Mm)
  | 0, _, _, _, _, _ => none
  | n9 + 1, v0, v1, v2, v3, M => if mK M v0 = 6 then if ((5 : Int32) * (mV M v0 5)) ≤ v3 then fX5_total_95 x9 k9 v0 v1 v2 M else if v1 = (3 : Int32) then if mK M v0 = 6 then ob1 (mP M v0 11) (fun b5 => if mK M b5 = 9 ∧ ¬ (v3 < 0 ∨ mN M b5 ≤ (v3).toNatClampNeg) then if (mV M b5 (v3).toNatClampNeg) = 0 then fX5_total_87 x9 k9 (fX5_total_57 x9 k9 n9) v0 v1 v3 v2 (0 : Int32) M else fX5_total_87 x9 k9 (fX5_total_57 x9 k9 n9) v0 v1 v3 v2 (1 : Int32) M else none) else none else fX5_total_95 x9 k9 v0 v1 v2 M else none
set_option maxRecDepth 100000 in
set_option maxHeartbeats 4000000 in
theorem tX5_total_57 {x9 : Cx} {K : Ct} {k9 : Nat} {M0 M9 : Mm} {r9 : Int32} (hE : Ce x9 K RX5 cX5_total 4 (some .int) 1 22 "total" M0) : ∀ (n9 : Nat) (v0 : Nat) (v1 : Int32) (v2 : Int32) (v3 : Int32) (M : Mm), fX5_total_57 x9 k9 n9 v0 v1 v2 v3 M = some (r9, M9) → Go x9 K 4 (Qf x9 K M0 (some (.int r9)) M9) 57 [(0, .ref v0), (1, .int v1), (2, .int v2), (3, .int v3)] [] M := by
  have hC := hE.1
  have hnm := hE.2.2.2.2.2.2.2.1
  intro n9
  induction n9 with
  | zero => intro _ _ _ _ _ h; cases h
  | succ n9 ih =>
    intro v0 v1 v2 v3 M h
    rw [fX5_total_57] at h
    refine go_iload_n hC dX5_total_57 rfl 3 rfl ?_
    refine go_iconst hC dX5_total_58 (v := (5 : Int32)) (by decide +kernel) ?_
    refine go_aload_n hC dX5_total_59 rfl 0 rfl ?_
    obtain ⟨h1, h⟩ := os_1 h
    refine go_getV 5 hC h1 rfl rfl (C := RX5) (T := TX5) (N := 28) rfl inlX5 (by decide) m_103 (Or.inl rfl) dX5_total_60 ?_
    refine go_imul hC dX5_total_63 ?_
    refine go_icmp_ge (t := 95) hC dX5_total_64 (by decide) (fun c2 => ?_) (fun c2 => ?_)
    · have h := os_t h c2
      refine go_sub (lv' := [(0, .ref v0), (1, .int v1), (2, .int v2)]) [0, 1, 2] rfl ?_
      exact tX5_total_95 hE _ _ _ _ h
    · have h := os_f h c2
      refine go_iload_n hC dX5_total_67 rfl 1 rfl ?_
      refine go_iconst hC dX5_total_68 (v := (3 : Int32)) (by decide +kernel) ?_
      refine go_icmp_ne (t := 95) hC dX5_total_69 (by decide) (fun c3 => ?_) (fun c3 => ?_)
      · have h := os_f h c3
        refine go_sub (lv' := [(0, .ref v0), (1, .int v1), (2, .int v2)]) [0, 1, 2] rfl ?_
        exact tX5_total_95 hE _ _ _ _ h
      · have h := os_t h c3
        refine go_iload_n hC dX5_total_72 rfl 2 rfl ?_
        refine go_aload_n hC dX5_total_73 rfl 0 rfl ?_
        obtain ⟨h4, h⟩ := os_1 h
        obtain ⟨b5, h6, h⟩ := os_b h
        refine go_getR 11 hC h4 rfl rfl h6 (C := RX5) (T := TX5) (N := 28) rfl inlX5 (by decide) m_85 (Or.inl rfl) dX5_total_74 ?_
        refine go_iload_n hC dX5_total_77 rfl 3 rfl ?_
        obtain ⟨h7, h⟩ := os_1 h
        refine go_zald hC h7.1 h7.2 dX5_total_78 ?_
        refine go_if_eq (t := 86) hC dX5_total_79 (by decide) (fun c8 => ?_) (fun c8 => ?_)
        · have h := os_t h c8
          refine go_iconst hC dX5_total_86 (v := (0 : Int32)) (by decide +kernel) ?_
          refine go_sub (lv' := [(0, .ref v0), (1, .int v1), (3, .int v3)]) [0, 1, 3] rfl ?_
          exact tX5_total_87 hE ih _ _ _ _ _ _ h
        · have h := os_f h c8
          refine go_iconst hC dX5_total_82 (v := (1 : Int32)) (by decide +kernel) ?_
          refine go_goto (t := 87) hC dX5_total_83 (by decide) ?_
          refine go_sub (lv' := [(0, .ref v0), (1, .int v1), (3, .int v3)]) [0, 1, 3] rfl ?_
          exact tX5_total_87 hE ih _ _ _ _ _ _ h
def fX5_total_15 (x9 : Cx) (k9 : Nat) (v0 : Nat) (v1 : Int32) (s0 : Nat) (s1 : Int32) (M : Mm) : Option (Int32 × Mm) :=
  if mK M s0 = 6 then ob2 (fX5_fails x9 k9 s0 s1 (1 : Int32) M) (fun r1 M2 => if r1 = 0 then if v1 = 0 then if mK M2 v0 = 6 then some ((mV M2 v0 5), M2) else none else if v1 = (1 : Int32) then if mK M2 v0 = 6 then some ((mV M2 v0 23), M2) else none else if v1 = (2 : Int32) then if mK M2 v0 = 6 then some ((mV M2 v0 24), M2) else none else fX5_total_57 x9 k9 k9 v0 v1 (0 : Int32) (0 : Int32) M2 else some ((0 : Int32), M2)) else none
set_option maxRecDepth 100000 in
set_option maxHeartbeats 4000000 in
theorem tX5_total_15 {x9 : Cx} {K : Ct} {k9 : Nat} {M0 M9 : Mm} {r9 : Int32} (hE : Ce x9 K RX5 cX5_total 4 (some .int) 1 22 "total" M0) (v0 : Nat) (v1 : Int32) (s0 : Nat) (s1 : Int32) (M : Mm) (h : fX5_total_15 x9 k9 v0 v1 s0 s1 M = some (r9, M9)) : Go x9 K 4 (Qf x9 K M0 (some (.int r9)) M9) 15 [(0, .ref v0), (1, .int v1)] [.int s1, .ref s0] M := by
  have hC := hE.1
  have hnm := hE.2.2.2.2.2.2.2.1
  unfold fX5_total_15 at h
  refine go_iconst hC dX5_total_15 (v := (1 : Int32)) (by decide +kernel) ?_
  obtain ⟨h4, h⟩ := os_1 h
  obtain ⟨r1, M2, h3, h⟩ := os_c h
  refine go_callV (bytes := cX5_fails) (maxL := 3) (ret := (some .boolean)) (n := 2) (As := [.int s1, .int (1 : Int32)]) (st := []) hE (c_X5_fails K.2.1 h3) (by unfold okY; decide +kernel) rfl h4 rfl (C := RX5) (T := TX5) (N := 28) rfl m_127 m_124 m_125 m_126 m_5 rfl (by simp [Value.category]) (by decide) (by decide) dX5_total_16 ?_
  refine go_eq (pc' := 19) (st' := [.int r1]) (M' := M2) (lv' := [(0, .ref v0), (1, .int v1)]) ?_ rfl rfl rfl rfl
  refine go_if_eq (t := 24) hC dX5_total_19 (by decide) (fun c5 => ?_) (fun c5 => ?_)
  · have h := os_t h c5
    refine go_iload_n hC dX5_total_24 rfl 1 rfl ?_
    refine go_if_ne (t := 33) hC dX5_total_25 (by decide) (fun c6 => ?_) (fun c6 => ?_)
    · have h := os_f h c6
      refine go_iload_n hC dX5_total_33 rfl 1 rfl ?_
      refine go_iconst hC dX5_total_34 (v := (1 : Int32)) (by decide +kernel) ?_
      refine go_icmp_ne (t := 43) hC dX5_total_35 (by decide) (fun c7 => ?_) (fun c7 => ?_)
      · have h := os_f h c7
        refine go_iload_n hC dX5_total_43 rfl 1 rfl ?_
        refine go_iconst hC dX5_total_44 (v := (2 : Int32)) (by decide +kernel) ?_
        refine go_icmp_ne (t := 53) hC dX5_total_45 (by decide) (fun c8 => ?_) (fun c8 => ?_)
        · have h := os_f h c8
          refine go_iconst hC dX5_total_53 (v := (0 : Int32)) (by decide +kernel) ?_
          refine go_istore_n (lv' := [(2, .int (0 : Int32)), (0, .ref v0), (1, .int v1)]) hC dX5_total_54 rfl (by decide) rfl ?_
          refine go_iconst hC dX5_total_55 (v := (0 : Int32)) (by decide +kernel) ?_
          refine go_istore_n (lv' := [(3, .int (0 : Int32)), (2, .int (0 : Int32)), (0, .ref v0), (1, .int v1)]) hC dX5_total_56 rfl (by decide) rfl ?_
          refine go_sub (lv' := [(0, .ref v0), (1, .int v1), (2, .int (0 : Int32)), (3, .int (0 : Int32))]) [2, 3, 1, 0] rfl ?_
          exact tX5_total_57 hE k9 _ _ _ _ _ h
        · have h := os_t h c8
          refine go_aload_n hC dX5_total_48 rfl 0 rfl ?_
          obtain ⟨h9, h⟩ := os_1 h
          refine go_getV 24 hC h9 rfl rfl (C := RX5) (T := TX5) (N := 28) rfl inlX5 (by decide) m_105 (Or.inl rfl) dX5_total_49 ?_
          cases h
          exact go_iret hE dX5_total_52
      · have h := os_t h c7
        refine go_aload_n hC dX5_total_38 rfl 0 rfl ?_
        obtain ⟨h10, h⟩ := os_1 h
        refine go_getV 23 hC h10 rfl rfl (C := RX5) (T := TX5) (N := 28) rfl inlX5 (by decide) m_104 (Or.inl rfl) dX5_total_39 ?_
        cases h
        exact go_iret hE dX5_total_42
    · have h := os_t h c6
      refine go_aload_n hC dX5_total_28 rfl 0 rfl ?_
      obtain ⟨h11, h⟩ := os_1 h
      refine go_getV 5 hC h11 rfl rfl (C := RX5) (T := TX5) (N := 28) rfl inlX5 (by decide) m_103 (Or.inl rfl) dX5_total_29 ?_
      cases h
      exact go_iret hE dX5_total_32
  · have h := os_f h c5
    refine go_iconst hC dX5_total_22 (v := (0 : Int32)) (by decide +kernel) ?_
    cases h
    exact go_iret hE dX5_total_23
def fX5_total_10 (x9 : Cx) (k9 : Nat) (v0 : Nat) (v1 : Int32) (s0 : Nat) (M : Mm) : Option (Int32 × Mm) :=
  fX5_total_15 x9 k9 v0 v1 s0 (1 : Int32) M
set_option maxRecDepth 100000 in
set_option maxHeartbeats 4000000 in
theorem tX5_total_10 {x9 : Cx} {K : Ct} {k9 : Nat} {M0 M9 : Mm} {r9 : Int32} (hE : Ce x9 K RX5 cX5_total 4 (some .int) 1 22 "total" M0) (v0 : Nat) (v1 : Int32) (s0 : Nat) (M : Mm) (h : fX5_total_10 x9 k9 v0 v1 s0 M = some (r9, M9)) : Go x9 K 4 (Qf x9 K M0 (some (.int r9)) M9) 10 [(0, .ref v0), (1, .int v1)] [.ref s0] M := by
  have hC := hE.1
  have hnm := hE.2.2.2.2.2.2.2.1
  unfold fX5_total_10 at h
  refine go_iconst hC dX5_total_10 (v := (1 : Int32)) (by decide +kernel) ?_
  refine go_goto (t := 15) hC dX5_total_11 (by decide) ?_
  exact tX5_total_15 hE _ _ _ _ _ h
def fX5_total (x9 : Cx) (k9 : Nat) (v0 : Nat) (v1 : Int32) (M : Mm) : Option (Int32 × Mm) :=
  if v1 < 0 then fX5_total_10 x9 k9 v0 v1 v0 M else if v1 ≤ (4 : Int32) then fX5_total_15 x9 k9 v0 v1 v0 (0 : Int32) M else fX5_total_10 x9 k9 v0 v1 v0 M
set_option maxRecDepth 100000 in
set_option maxHeartbeats 4000000 in
theorem tX5_total_0 {x9 : Cx} {K : Ct} {k9 : Nat} {M0 M9 : Mm} {r9 : Int32} (hE : Ce x9 K RX5 cX5_total 4 (some .int) 1 22 "total" M0) (v0 : Nat) (v1 : Int32) (M : Mm) (h : fX5_total x9 k9 v0 v1 M = some (r9, M9)) : Go x9 K 4 (Qf x9 K M0 (some (.int r9)) M9) 0 [(0, .ref v0), (1, .int v1)] [] M := by
  have hC := hE.1
  have hnm := hE.2.2.2.2.2.2.2.1
  unfold fX5_total at h
  refine go_aload_n hC dX5_total_0 rfl 0 rfl ?_
  refine go_iload_n hC dX5_total_1 rfl 1 rfl ?_
  refine go_if_lt (t := 10) hC dX5_total_2 (by decide) (fun c1 => ?_) (fun c1 => ?_)
  · have h := os_t h c1
    exact tX5_total_10 hE _ _ _ _ h
  · have h := os_f h c1
    refine go_iload_n hC dX5_total_5 rfl 1 rfl ?_
    refine go_iconst hC dX5_total_6 (v := (4 : Int32)) (by decide +kernel) ?_
    refine go_icmp_le (t := 14) hC dX5_total_7 (by decide) (fun c2 => ?_) (fun c2 => ?_)
    · have h := os_t h c2
      refine go_iconst hC dX5_total_14 (v := (0 : Int32)) (by decide +kernel) ?_
      exact tX5_total_15 hE _ _ _ _ _ h
    · have h := os_f h c2
      exact tX5_total_10 hE _ _ _ _ h
theorem c_X5_total (l : Launch) {x9 : Cx} {k9 : Nat} {M M9 : Mm} {r9 : Int32} {v0 : Nat} {v1 : Int32} (h : fX5_total x9 k9 v0 v1 M = some (r9, M9)) : Fn l x9 yX5_total cX5_total 4 (some .int) 1 22 [.ref v0, .int v1] M (some (.int r9)) M9 :=
  Fn.of (by decide +kernel) (Nat.le_of_ble_eq_true rfl) rfl (fun K _ hE => tX5_total_0 hE _ _ _ h)
/-! X5_init -/
def fX5_init (x9 : Cx) (k9 : Nat) (v0 : Nat) (M : Mm) : Option (Unit × Mm) :=
  if mK M v0 = 6 then if ¬ (25 : Int32) < 0 ∧ ((25 : Int32)).toNatClampNeg * 4 ≤ 536870912 ∧ mX (sV M v0 0 (2 : Int32)) + 1 ≤ xC x9 ∧ mS (sV M v0 0 (2 : Int32)) + ((25 : Int32)).toNatClampNeg ≤ xL x9 then lt1 (nO (sV M v0 0 (2 : Int32)) 8 ((25 : Int32)).toNatClampNeg ((25 : Int32)).toNatClampNeg) (fun M3 => if mK M3 v0 = 6 then if ¬ (5 : Int32) < 0 ∧ ((5 : Int32)).toNatClampNeg * 1 ≤ 536870912 ∧ mX (sP M3 v0 1 (some (mX (sV M v0 0 (2 : Int32))))) + 1 ≤ xC x9 ∧ mS (sP M3 v0 1 (some (mX (sV M v0 0 (2 : Int32))))) + ((5 : Int32)).toNatClampNeg ≤ xL x9 then lt1 (nO (sP M3 v0 1 (some (mX (sV M v0 0 (2 : Int32))))) 9 ((5 : Int32)).toNatClampNeg ((5 : Int32)).toNatClampNeg) (fun M7 => if mK M7 v0 = 6 then lt1 (sP M7 v0 2 (some (mX (sP M3 v0 1 (some (mX (sV M v0 0 (2 : Int32)))))))) (fun M10 => if ¬ (100 : Int32) < 0 ∧ ((100 : Int32)).toNatClampNeg * 4 ≤ 536870912 ∧ mX M10 + 1 ≤ xC x9 ∧ mS M10 + ((100 : Int32)).toNatClampNeg ≤ xL x9 then if mK (nO M10 8 ((100 : Int32)).toNatClampNeg ((100 : Int32)).toNatClampNeg) v0 = 6 then lt1 (sP (nO M10 8 ((100 : Int32)).toNatClampNeg ((100 : Int32)).toNatClampNeg) v0 3 (some (mX M10))) (fun M14 => if ¬ (200 : Int32) < 0 ∧ ((200 : Int32)).toNatClampNeg * 4 ≤ 536870912 ∧ mX M14 + 1 ≤ xC x9 ∧ mS M14 + ((200 : Int32)).toNatClampNeg ≤ xL x9 then if mK (nO M14 8 ((200 : Int32)).toNatClampNeg ((200 : Int32)).toNatClampNeg) v0 = 6 then lt1 (sP (nO M14 8 ((200 : Int32)).toNatClampNeg ((200 : Int32)).toNatClampNeg) v0 6 (some (mX M14))) (fun M18 => if ¬ (200 : Int32) < 0 ∧ ((200 : Int32)).toNatClampNeg * 4 ≤ 536870912 ∧ mX M18 + 1 ≤ xC x9 ∧ mS M18 + ((200 : Int32)).toNatClampNeg ≤ xL x9 then if mK (nO M18 8 ((200 : Int32)).toNatClampNeg ((200 : Int32)).toNatClampNeg) v0 = 6 then lt1 (sP (nO M18 8 ((200 : Int32)).toNatClampNeg ((200 : Int32)).toNatClampNeg) v0 7 (some (mX M18))) (fun M22 => if ¬ (200 : Int32) < 0 ∧ ((200 : Int32)).toNatClampNeg * 4 ≤ 536870912 ∧ mX M22 + 1 ≤ xC x9 ∧ mS M22 + ((200 : Int32)).toNatClampNeg ≤ xL x9 then if mK (nO M22 8 ((200 : Int32)).toNatClampNeg ((200 : Int32)).toNatClampNeg) v0 = 6 then lt1 (sP (nO M22 8 ((200 : Int32)).toNatClampNeg ((200 : Int32)).toNatClampNeg) v0 8 (some (mX M22))) (fun M26 => if ¬ (1000 : Int32) < 0 ∧ ((1000 : Int32)).toNatClampNeg * 4 ≤ 536870912 ∧ mX M26 + 1 ≤ xC x9 ∧ mS M26 + ((1000 : Int32)).toNatClampNeg ≤ xL x9 then lt1 (nO M26 8 ((1000 : Int32)).toNatClampNeg ((1000 : Int32)).toNatClampNeg) (fun M29 => if mK M29 v0 = 6 then if ¬ (1000 : Int32) < 0 ∧ ((1000 : Int32)).toNatClampNeg * 4 ≤ 536870912 ∧ mX (sP M29 v0 9 (some (mX M26))) + 1 ≤ xC x9 ∧ mS (sP M29 v0 9 (some (mX M26))) + ((1000 : Int32)).toNatClampNeg ≤ xL x9 then lt1 (nO (sP M29 v0 9 (some (mX M26))) 8 ((1000 : Int32)).toNatClampNeg ((1000 : Int32)).toNatClampNeg) (fun M33 => if mK M33 v0 = 6 then if ¬ (1000 : Int32) < 0 ∧ ((1000 : Int32)).toNatClampNeg * 1 ≤ 536870912 ∧ mX (sP M33 v0 10 (some (mX (sP M29 v0 9 (some (mX M26)))))) + 1 ≤ xC x9 ∧ mS (sP M33 v0 10 (some (mX (sP M29 v0 9 (some (mX M26)))))) + ((1000 : Int32)).toNatClampNeg ≤ xL x9 then lt1 (nO (sP M33 v0 10 (some (mX (sP M29 v0 9 (some (mX M26)))))) 9 ((1000 : Int32)).toNatClampNeg ((1000 : Int32)).toNatClampNeg) (fun M37 => if mK M37 v0 = 6 then lt1 (sP M37 v0 11 (some (mX (sP M33 v0 10 (some (mX (sP M29 v0 9 (some (mX M26))))))))) (fun M40 => if ¬ (1000 : Int32) < 0 ∧ ((1000 : Int32)).toNatClampNeg * 1 ≤ 536870912 ∧ mX M40 + 1 ≤ xC x9 ∧ mS M40 + ((1000 : Int32)).toNatClampNeg ≤ xL x9 then lt1 (nO M40 9 ((1000 : Int32)).toNatClampNeg ((1000 : Int32)).toNatClampNeg) (fun M43 => if mK M43 v0 = 6 then if ¬ (1000 : Int32) < 0 ∧ ((1000 : Int32)).toNatClampNeg * 1 ≤ 536870912 ∧ mX (sP M43 v0 12 (some (mX M40))) + 1 ≤ xC x9 ∧ mS (sP M43 v0 12 (some (mX M40))) + ((1000 : Int32)).toNatClampNeg ≤ xL x9 then lt1 (nO (sP M43 v0 12 (some (mX M40))) 9 ((1000 : Int32)).toNatClampNeg ((1000 : Int32)).toNatClampNeg) (fun M47 => if mK M47 v0 = 6 then if ¬ (1000 : Int32) < 0 ∧ ((1000 : Int32)).toNatClampNeg * 1 ≤ 536870912 ∧ mX (sP M47 v0 13 (some (mX (sP M43 v0 12 (some (mX M40)))))) + 1 ≤ xC x9 ∧ mS (sP M47 v0 13 (some (mX (sP M43 v0 12 (some (mX M40)))))) + ((1000 : Int32)).toNatClampNeg ≤ xL x9 then lt1 (nO (sP M47 v0 13 (some (mX (sP M43 v0 12 (some (mX M40)))))) 9 ((1000 : Int32)).toNatClampNeg ((1000 : Int32)).toNatClampNeg) (fun M51 => if mK M51 v0 = 6 then lt1 (sP M51 v0 14 (some (mX (sP M47 v0 13 (some (mX (sP M43 v0 12 (some (mX M40))))))))) (fun M54 => if ¬ (4000 : Int32) < 0 ∧ ((4000 : Int32)).toNatClampNeg * 1 ≤ 536870912 ∧ mX M54 + 1 ≤ xC x9 ∧ mS M54 + ((4000 : Int32)).toNatClampNeg ≤ xL x9 then lt1 (nO M54 9 ((4000 : Int32)).toNatClampNeg ((4000 : Int32)).toNatClampNeg) (fun M57 => if mK M57 v0 = 6 then if ¬ (4000 : Int32) < 0 ∧ ((4000 : Int32)).toNatClampNeg * 4 ≤ 536870912 ∧ mX (sP M57 v0 15 (some (mX M54))) + 1 ≤ xC x9 ∧ mS (sP M57 v0 15 (some (mX M54))) + ((4000 : Int32)).toNatClampNeg ≤ xL x9 then lt1 (nO (sP M57 v0 15 (some (mX M54))) 8 ((4000 : Int32)).toNatClampNeg ((4000 : Int32)).toNatClampNeg) (fun M61 => if mK M61 v0 = 6 then if ¬ (4000 : Int32) < 0 ∧ ((4000 : Int32)).toNatClampNeg * 4 ≤ 536870912 ∧ mX (sP M61 v0 16 (some (mX (sP M57 v0 15 (some (mX M54)))))) + 1 ≤ xC x9 ∧ mS (sP M61 v0 16 (some (mX (sP M57 v0 15 (some (mX M54)))))) + ((4000 : Int32)).toNatClampNeg ≤ xL x9 then lt1 (nO (sP M61 v0 16 (some (mX (sP M57 v0 15 (some (mX M54)))))) 8 ((4000 : Int32)).toNatClampNeg ((4000 : Int32)).toNatClampNeg) (fun M65 => if mK M65 v0 = 6 then lt1 (sP M65 v0 17 (some (mX (sP M61 v0 16 (some (mX (sP M57 v0 15 (some (mX M54))))))))) (fun M68 => if ¬ (4000 : Int32) < 0 ∧ ((4000 : Int32)).toNatClampNeg * 4 ≤ 536870912 ∧ mX M68 + 1 ≤ xC x9 ∧ mS M68 + ((4000 : Int32)).toNatClampNeg ≤ xL x9 then lt1 (nO M68 8 ((4000 : Int32)).toNatClampNeg ((4000 : Int32)).toNatClampNeg) (fun M71 => if mK M71 v0 = 6 then if ¬ (200 : Int32) < 0 ∧ ((200 : Int32)).toNatClampNeg * 4 ≤ 536870912 ∧ mX (sP M71 v0 18 (some (mX M68))) + 1 ≤ xC x9 ∧ mS (sP M71 v0 18 (some (mX M68))) + ((200 : Int32)).toNatClampNeg ≤ xL x9 then lt1 (nO (sP M71 v0 18 (some (mX M68))) 8 ((200 : Int32)).toNatClampNeg ((200 : Int32)).toNatClampNeg) (fun M75 => if mK M75 v0 = 6 then if ¬ (200 : Int32) < 0 ∧ ((200 : Int32)).toNatClampNeg * 1 ≤ 536870912 ∧ mX (sP M75 v0 19 (some (mX (sP M71 v0 18 (some (mX M68)))))) + 1 ≤ xC x9 ∧ mS (sP M75 v0 19 (some (mX (sP M71 v0 18 (some (mX M68)))))) + ((200 : Int32)).toNatClampNeg ≤ xL x9 then lt1 (nO (sP M75 v0 19 (some (mX (sP M71 v0 18 (some (mX M68)))))) 9 ((200 : Int32)).toNatClampNeg ((200 : Int32)).toNatClampNeg) (fun M79 => if mK M79 v0 = 6 then lt1 (sP M79 v0 20 (some (mX (sP M75 v0 19 (some (mX (sP M71 v0 18 (some (mX M68))))))))) (fun M82 => if ¬ (200 : Int32) < 0 ∧ ((200 : Int32)).toNatClampNeg * 1 ≤ 536870912 ∧ mX M82 + 1 ≤ xC x9 ∧ mS M82 + ((200 : Int32)).toNatClampNeg ≤ xL x9 then if mK (nO M82 9 ((200 : Int32)).toNatClampNeg ((200 : Int32)).toNatClampNeg) v0 = 6 then lt1 (sP (nO M82 9 ((200 : Int32)).toNatClampNeg ((200 : Int32)).toNatClampNeg) v0 21 (some (mX M82))) (fun M86 => if ¬ (1200 : Int32) < 0 ∧ ((1200 : Int32)).toNatClampNeg * 4 ≤ 536870912 ∧ mX M86 + 1 ≤ xC x9 ∧ mS M86 + ((1200 : Int32)).toNatClampNeg ≤ xL x9 then lt1 (nO M86 8 ((1200 : Int32)).toNatClampNeg ((1200 : Int32)).toNatClampNeg) (fun M89 => if mK M89 v0 = 6 then if ¬ (300 : Int32) < 0 ∧ ((300 : Int32)).toNatClampNeg * 4 ≤ 536870912 ∧ mX (sP M89 v0 22 (some (mX M86))) + 1 ≤ xC x9 ∧ mS (sP M89 v0 22 (some (mX M86))) + ((300 : Int32)).toNatClampNeg ≤ xL x9 then lt1 (nO (sP M89 v0 22 (some (mX M86))) 8 ((300 : Int32)).toNatClampNeg ((300 : Int32)).toNatClampNeg) (fun M93 => if mK M93 v0 = 6 then if mK (sP M93 v0 25 (some (mX (sP M89 v0 22 (some (mX M86)))))) v0 = 6 then ob2 (fX5_begins x9 k9 v0 (2 : Int32) (sP M93 v0 25 (some (mX (sP M89 v0 22 (some (mX M86))))))) (fun r96 M97 => some ((), M97)) else none else none) else none else none) else none) else none else none) else none) else none else none) else none else none) else none) else none) else none else none) else none else none) else none) else none) else none else none) else none else none) else none) else none) else none else none) else none else none) else none) else none else none) else none else none) else none else none) else none else none) else none) else none else none) else none else none
set_option maxRecDepth 100000 in
set_option maxHeartbeats 4000000 in
theorem tX5_init_0 {x9 : Cx} {K : Ct} {k9 : Nat} {M0 M9 : Mm} {r9 : Unit} (hE : Ce x9 K RX5 cX5_init 1 none 1 22 "<init>" M0) (v0 : Nat) (M : Mm) (h : fX5_init x9 k9 v0 M = some (r9, M9)) : Go x9 K 1 (Qf x9 K M0 none M9) 0 [(0, .ref v0)] [] M := by
  have hC := hE.1
  have hnm := hE.2.2.2.2.2.2.2.1
  unfold fX5_init at h
  refine go_aload_n hC dX5_init_0 rfl 0 rfl ?_
  refine go_objInit hE m_74 m_11 m_12 dX5_init_1 (by decide) (by decide) (by simp [Value.category]) ?_
  refine go_aload_n hC dX5_init_4 rfl 0 rfl ?_
  refine go_iconst hC dX5_init_5 (v := (2 : Int32)) (by decide +kernel) ?_
  obtain ⟨h1, h⟩ := os_1 h
  refine go_putV 0 hC h1 rfl rfl (C := RX5) (T := TX5) (N := 28) rfl inlX5 tyX5 tyX5_ok nmX5 (by decide) m_75 (Or.inl rfl) (Or.inl rfl) (tyX5_ok 0 (by decide)) rfl rfl dX5_init_6 ?_
  refine go_aload_n hC dX5_init_9 rfl 0 rfl ?_
  refine go_bipush hC dX5_init_10 (v := (25 : Int32)) (by decide +kernel) ?_
  obtain ⟨h2, h⟩ := os_1 h
  refine go_newI hE m_29 h2.1 h2.2.1 h2.2.2.1 h2.2.2.2 dX5_init_12 ?_
  obtain ⟨M3, e4, h⟩ := os_l h
  refine go_eq (pc' := 14) (st' := [.ref (mX (sV M v0 0 (2 : Int32))), .ref v0]) (M' := M3) (lv' := [(0, .ref v0)]) ?_ rfl rfl rfl e4
  obtain ⟨h5, h⟩ := os_1 h
  refine go_putR 1 hC h5 rfl rfl (C := RX5) (T := TX5) (N := 28) rfl inlX5 tyX5 tyX5_ok nmX5 (by decide) m_76 (Or.inl rfl) (Or.inr ⟨rfl, rfl, hnm⟩) (tyX5_ok 1 (by decide)) rfl rfl dX5_init_14 ?_
  refine go_aload_n hC dX5_init_17 rfl 0 rfl ?_
  refine go_iconst hC dX5_init_18 (v := (5 : Int32)) (by decide +kernel) ?_
  obtain ⟨h6, h⟩ := os_1 h
  refine go_newZ hE m_77 h6.1 h6.2.1 h6.2.2.1 h6.2.2.2 dX5_init_19 ?_
  obtain ⟨M7, e8, h⟩ := os_l h
  refine go_eq (pc' := 21) (st' := [.ref (mX (sP M3 v0 1 (some (mX (sV M v0 0 (2 : Int32)))))), .ref v0]) (M' := M7) (lv' := [(0, .ref v0)]) ?_ rfl rfl rfl e8
  obtain ⟨h9, h⟩ := os_1 h
  refine go_putR 2 hC h9 rfl rfl (C := RX5) (T := TX5) (N := 28) rfl inlX5 tyX5 tyX5_ok nmX5 (by decide) m_78 (Or.inl rfl) (Or.inr ⟨rfl, rfl, hnm⟩) (tyX5_ok 2 (by decide)) rfl rfl dX5_init_21 ?_
  obtain ⟨M10, e11, h⟩ := os_l h
  refine go_eq (pc' := 24) (st' := []) (M' := M10) (lv' := [(0, .ref v0)]) ?_ rfl rfl rfl e11
  refine go_aload_n hC dX5_init_24 rfl 0 rfl ?_
  refine go_bipush hC dX5_init_25 (v := (100 : Int32)) (by decide +kernel) ?_
  obtain ⟨h12, h⟩ := os_1 h
  refine go_newI hE m_29 h12.1 h12.2.1 h12.2.2.1 h12.2.2.2 dX5_init_27 ?_
  obtain ⟨h13, h⟩ := os_1 h
  refine go_putR 3 hC h13 rfl rfl (C := RX5) (T := TX5) (N := 28) rfl inlX5 tyX5 tyX5_ok nmX5 (by decide) m_79 (Or.inl rfl) (Or.inr ⟨rfl, rfl, hnm⟩) (tyX5_ok 3 (by decide)) rfl rfl dX5_init_29 ?_
  obtain ⟨M14, e15, h⟩ := os_l h
  refine go_eq (pc' := 32) (st' := []) (M' := M14) (lv' := [(0, .ref v0)]) ?_ rfl rfl rfl e15
  refine go_aload_n hC dX5_init_32 rfl 0 rfl ?_
  refine go_sipush hC dX5_init_33 (v := (200 : Int32)) (by decide +kernel) ?_
  obtain ⟨h16, h⟩ := os_1 h
  refine go_newI hE m_29 h16.1 h16.2.1 h16.2.2.1 h16.2.2.2 dX5_init_36 ?_
  obtain ⟨h17, h⟩ := os_1 h
  refine go_putR 6 hC h17 rfl rfl (C := RX5) (T := TX5) (N := 28) rfl inlX5 tyX5 tyX5_ok nmX5 (by decide) m_80 (Or.inl rfl) (Or.inr ⟨rfl, rfl, hnm⟩) (tyX5_ok 6 (by decide)) rfl rfl dX5_init_38 ?_
  obtain ⟨M18, e19, h⟩ := os_l h
  refine go_eq (pc' := 41) (st' := []) (M' := M18) (lv' := [(0, .ref v0)]) ?_ rfl rfl rfl e19
  refine go_aload_n hC dX5_init_41 rfl 0 rfl ?_
  refine go_sipush hC dX5_init_42 (v := (200 : Int32)) (by decide +kernel) ?_
  obtain ⟨h20, h⟩ := os_1 h
  refine go_newI hE m_29 h20.1 h20.2.1 h20.2.2.1 h20.2.2.2 dX5_init_45 ?_
  obtain ⟨h21, h⟩ := os_1 h
  refine go_putR 7 hC h21 rfl rfl (C := RX5) (T := TX5) (N := 28) rfl inlX5 tyX5 tyX5_ok nmX5 (by decide) m_81 (Or.inl rfl) (Or.inr ⟨rfl, rfl, hnm⟩) (tyX5_ok 7 (by decide)) rfl rfl dX5_init_47 ?_
  obtain ⟨M22, e23, h⟩ := os_l h
  refine go_eq (pc' := 50) (st' := []) (M' := M22) (lv' := [(0, .ref v0)]) ?_ rfl rfl rfl e23
  refine go_aload_n hC dX5_init_50 rfl 0 rfl ?_
  refine go_sipush hC dX5_init_51 (v := (200 : Int32)) (by decide +kernel) ?_
  obtain ⟨h24, h⟩ := os_1 h
  refine go_newI hE m_29 h24.1 h24.2.1 h24.2.2.1 h24.2.2.2 dX5_init_54 ?_
  obtain ⟨h25, h⟩ := os_1 h
  refine go_putR 8 hC h25 rfl rfl (C := RX5) (T := TX5) (N := 28) rfl inlX5 tyX5 tyX5_ok nmX5 (by decide) m_82 (Or.inl rfl) (Or.inr ⟨rfl, rfl, hnm⟩) (tyX5_ok 8 (by decide)) rfl rfl dX5_init_56 ?_
  obtain ⟨M26, e27, h⟩ := os_l h
  refine go_eq (pc' := 59) (st' := []) (M' := M26) (lv' := [(0, .ref v0)]) ?_ rfl rfl rfl e27
  refine go_aload_n hC dX5_init_59 rfl 0 rfl ?_
  refine go_sipush hC dX5_init_60 (v := (1000 : Int32)) (by decide +kernel) ?_
  obtain ⟨h28, h⟩ := os_1 h
  refine go_newI hE m_29 h28.1 h28.2.1 h28.2.2.1 h28.2.2.2 dX5_init_63 ?_
  obtain ⟨M29, e30, h⟩ := os_l h
  refine go_eq (pc' := 65) (st' := [.ref (mX M26), .ref v0]) (M' := M29) (lv' := [(0, .ref v0)]) ?_ rfl rfl rfl e30
  obtain ⟨h31, h⟩ := os_1 h
  refine go_putR 9 hC h31 rfl rfl (C := RX5) (T := TX5) (N := 28) rfl inlX5 tyX5 tyX5_ok nmX5 (by decide) m_83 (Or.inl rfl) (Or.inr ⟨rfl, rfl, hnm⟩) (tyX5_ok 9 (by decide)) rfl rfl dX5_init_65 ?_
  refine go_aload_n hC dX5_init_68 rfl 0 rfl ?_
  refine go_sipush hC dX5_init_69 (v := (1000 : Int32)) (by decide +kernel) ?_
  obtain ⟨h32, h⟩ := os_1 h
  refine go_newI hE m_29 h32.1 h32.2.1 h32.2.2.1 h32.2.2.2 dX5_init_72 ?_
  obtain ⟨M33, e34, h⟩ := os_l h
  refine go_eq (pc' := 74) (st' := [.ref (mX (sP M29 v0 9 (some (mX M26)))), .ref v0]) (M' := M33) (lv' := [(0, .ref v0)]) ?_ rfl rfl rfl e34
  obtain ⟨h35, h⟩ := os_1 h
  refine go_putR 10 hC h35 rfl rfl (C := RX5) (T := TX5) (N := 28) rfl inlX5 tyX5 tyX5_ok nmX5 (by decide) m_84 (Or.inl rfl) (Or.inr ⟨rfl, rfl, hnm⟩) (tyX5_ok 10 (by decide)) rfl rfl dX5_init_74 ?_
  refine go_aload_n hC dX5_init_77 rfl 0 rfl ?_
  refine go_sipush hC dX5_init_78 (v := (1000 : Int32)) (by decide +kernel) ?_
  obtain ⟨h36, h⟩ := os_1 h
  refine go_newZ hE m_77 h36.1 h36.2.1 h36.2.2.1 h36.2.2.2 dX5_init_81 ?_
  obtain ⟨M37, e38, h⟩ := os_l h
  refine go_eq (pc' := 83) (st' := [.ref (mX (sP M33 v0 10 (some (mX (sP M29 v0 9 (some (mX M26))))))), .ref v0]) (M' := M37) (lv' := [(0, .ref v0)]) ?_ rfl rfl rfl e38
  obtain ⟨h39, h⟩ := os_1 h
  refine go_putR 11 hC h39 rfl rfl (C := RX5) (T := TX5) (N := 28) rfl inlX5 tyX5 tyX5_ok nmX5 (by decide) m_85 (Or.inl rfl) (Or.inr ⟨rfl, rfl, hnm⟩) (tyX5_ok 11 (by decide)) rfl rfl dX5_init_83 ?_
  obtain ⟨M40, e41, h⟩ := os_l h
  refine go_eq (pc' := 86) (st' := []) (M' := M40) (lv' := [(0, .ref v0)]) ?_ rfl rfl rfl e41
  refine go_aload_n hC dX5_init_86 rfl 0 rfl ?_
  refine go_sipush hC dX5_init_87 (v := (1000 : Int32)) (by decide +kernel) ?_
  obtain ⟨h42, h⟩ := os_1 h
  refine go_newZ hE m_77 h42.1 h42.2.1 h42.2.2.1 h42.2.2.2 dX5_init_90 ?_
  obtain ⟨M43, e44, h⟩ := os_l h
  refine go_eq (pc' := 92) (st' := [.ref (mX M40), .ref v0]) (M' := M43) (lv' := [(0, .ref v0)]) ?_ rfl rfl rfl e44
  obtain ⟨h45, h⟩ := os_1 h
  refine go_putR 12 hC h45 rfl rfl (C := RX5) (T := TX5) (N := 28) rfl inlX5 tyX5 tyX5_ok nmX5 (by decide) m_86 (Or.inl rfl) (Or.inr ⟨rfl, rfl, hnm⟩) (tyX5_ok 12 (by decide)) rfl rfl dX5_init_92 ?_
  refine go_aload_n hC dX5_init_95 rfl 0 rfl ?_
  refine go_sipush hC dX5_init_96 (v := (1000 : Int32)) (by decide +kernel) ?_
  obtain ⟨h46, h⟩ := os_1 h
  refine go_newZ hE m_77 h46.1 h46.2.1 h46.2.2.1 h46.2.2.2 dX5_init_99 ?_
  obtain ⟨M47, e48, h⟩ := os_l h
  refine go_eq (pc' := 101) (st' := [.ref (mX (sP M43 v0 12 (some (mX M40)))), .ref v0]) (M' := M47) (lv' := [(0, .ref v0)]) ?_ rfl rfl rfl e48
  obtain ⟨h49, h⟩ := os_1 h
  refine go_putR 13 hC h49 rfl rfl (C := RX5) (T := TX5) (N := 28) rfl inlX5 tyX5 tyX5_ok nmX5 (by decide) m_87 (Or.inl rfl) (Or.inr ⟨rfl, rfl, hnm⟩) (tyX5_ok 13 (by decide)) rfl rfl dX5_init_101 ?_
  refine go_aload_n hC dX5_init_104 rfl 0 rfl ?_
  refine go_sipush hC dX5_init_105 (v := (1000 : Int32)) (by decide +kernel) ?_
  obtain ⟨h50, h⟩ := os_1 h
  refine go_newZ hE m_77 h50.1 h50.2.1 h50.2.2.1 h50.2.2.2 dX5_init_108 ?_
  obtain ⟨M51, e52, h⟩ := os_l h
  refine go_eq (pc' := 110) (st' := [.ref (mX (sP M47 v0 13 (some (mX (sP M43 v0 12 (some (mX M40))))))), .ref v0]) (M' := M51) (lv' := [(0, .ref v0)]) ?_ rfl rfl rfl e52
  obtain ⟨h53, h⟩ := os_1 h
  refine go_putR 14 hC h53 rfl rfl (C := RX5) (T := TX5) (N := 28) rfl inlX5 tyX5 tyX5_ok nmX5 (by decide) m_88 (Or.inl rfl) (Or.inr ⟨rfl, rfl, hnm⟩) (tyX5_ok 14 (by decide)) rfl rfl dX5_init_110 ?_
  obtain ⟨M54, e55, h⟩ := os_l h
  refine go_eq (pc' := 113) (st' := []) (M' := M54) (lv' := [(0, .ref v0)]) ?_ rfl rfl rfl e55
  refine go_aload_n hC dX5_init_113 rfl 0 rfl ?_
  refine go_sipush hC dX5_init_114 (v := (4000 : Int32)) (by decide +kernel) ?_
  obtain ⟨h56, h⟩ := os_1 h
  refine go_newZ hE m_77 h56.1 h56.2.1 h56.2.2.1 h56.2.2.2 dX5_init_117 ?_
  obtain ⟨M57, e58, h⟩ := os_l h
  refine go_eq (pc' := 119) (st' := [.ref (mX M54), .ref v0]) (M' := M57) (lv' := [(0, .ref v0)]) ?_ rfl rfl rfl e58
  obtain ⟨h59, h⟩ := os_1 h
  refine go_putR 15 hC h59 rfl rfl (C := RX5) (T := TX5) (N := 28) rfl inlX5 tyX5 tyX5_ok nmX5 (by decide) m_89 (Or.inl rfl) (Or.inr ⟨rfl, rfl, hnm⟩) (tyX5_ok 15 (by decide)) rfl rfl dX5_init_119 ?_
  refine go_aload_n hC dX5_init_122 rfl 0 rfl ?_
  refine go_sipush hC dX5_init_123 (v := (4000 : Int32)) (by decide +kernel) ?_
  obtain ⟨h60, h⟩ := os_1 h
  refine go_newI hE m_29 h60.1 h60.2.1 h60.2.2.1 h60.2.2.2 dX5_init_126 ?_
  obtain ⟨M61, e62, h⟩ := os_l h
  refine go_eq (pc' := 128) (st' := [.ref (mX (sP M57 v0 15 (some (mX M54)))), .ref v0]) (M' := M61) (lv' := [(0, .ref v0)]) ?_ rfl rfl rfl e62
  obtain ⟨h63, h⟩ := os_1 h
  refine go_putR 16 hC h63 rfl rfl (C := RX5) (T := TX5) (N := 28) rfl inlX5 tyX5 tyX5_ok nmX5 (by decide) m_90 (Or.inl rfl) (Or.inr ⟨rfl, rfl, hnm⟩) (tyX5_ok 16 (by decide)) rfl rfl dX5_init_128 ?_
  refine go_aload_n hC dX5_init_131 rfl 0 rfl ?_
  refine go_sipush hC dX5_init_132 (v := (4000 : Int32)) (by decide +kernel) ?_
  obtain ⟨h64, h⟩ := os_1 h
  refine go_newI hE m_29 h64.1 h64.2.1 h64.2.2.1 h64.2.2.2 dX5_init_135 ?_
  obtain ⟨M65, e66, h⟩ := os_l h
  refine go_eq (pc' := 137) (st' := [.ref (mX (sP M61 v0 16 (some (mX (sP M57 v0 15 (some (mX M54))))))), .ref v0]) (M' := M65) (lv' := [(0, .ref v0)]) ?_ rfl rfl rfl e66
  obtain ⟨h67, h⟩ := os_1 h
  refine go_putR 17 hC h67 rfl rfl (C := RX5) (T := TX5) (N := 28) rfl inlX5 tyX5 tyX5_ok nmX5 (by decide) m_91 (Or.inl rfl) (Or.inr ⟨rfl, rfl, hnm⟩) (tyX5_ok 17 (by decide)) rfl rfl dX5_init_137 ?_
  obtain ⟨M68, e69, h⟩ := os_l h
  refine go_eq (pc' := 140) (st' := []) (M' := M68) (lv' := [(0, .ref v0)]) ?_ rfl rfl rfl e69
  refine go_aload_n hC dX5_init_140 rfl 0 rfl ?_
  refine go_sipush hC dX5_init_141 (v := (4000 : Int32)) (by decide +kernel) ?_
  obtain ⟨h70, h⟩ := os_1 h
  refine go_newI hE m_29 h70.1 h70.2.1 h70.2.2.1 h70.2.2.2 dX5_init_144 ?_
  obtain ⟨M71, e72, h⟩ := os_l h
  refine go_eq (pc' := 146) (st' := [.ref (mX M68), .ref v0]) (M' := M71) (lv' := [(0, .ref v0)]) ?_ rfl rfl rfl e72
  obtain ⟨h73, h⟩ := os_1 h
  refine go_putR 18 hC h73 rfl rfl (C := RX5) (T := TX5) (N := 28) rfl inlX5 tyX5 tyX5_ok nmX5 (by decide) m_92 (Or.inl rfl) (Or.inr ⟨rfl, rfl, hnm⟩) (tyX5_ok 18 (by decide)) rfl rfl dX5_init_146 ?_
  refine go_aload_n hC dX5_init_149 rfl 0 rfl ?_
  refine go_sipush hC dX5_init_150 (v := (200 : Int32)) (by decide +kernel) ?_
  obtain ⟨h74, h⟩ := os_1 h
  refine go_newI hE m_29 h74.1 h74.2.1 h74.2.2.1 h74.2.2.2 dX5_init_153 ?_
  obtain ⟨M75, e76, h⟩ := os_l h
  refine go_eq (pc' := 155) (st' := [.ref (mX (sP M71 v0 18 (some (mX M68)))), .ref v0]) (M' := M75) (lv' := [(0, .ref v0)]) ?_ rfl rfl rfl e76
  obtain ⟨h77, h⟩ := os_1 h
  refine go_putR 19 hC h77 rfl rfl (C := RX5) (T := TX5) (N := 28) rfl inlX5 tyX5 tyX5_ok nmX5 (by decide) m_93 (Or.inl rfl) (Or.inr ⟨rfl, rfl, hnm⟩) (tyX5_ok 19 (by decide)) rfl rfl dX5_init_155 ?_
  refine go_aload_n hC dX5_init_158 rfl 0 rfl ?_
  refine go_sipush hC dX5_init_159 (v := (200 : Int32)) (by decide +kernel) ?_
  obtain ⟨h78, h⟩ := os_1 h
  refine go_newZ hE m_77 h78.1 h78.2.1 h78.2.2.1 h78.2.2.2 dX5_init_162 ?_
  obtain ⟨M79, e80, h⟩ := os_l h
  refine go_eq (pc' := 164) (st' := [.ref (mX (sP M75 v0 19 (some (mX (sP M71 v0 18 (some (mX M68))))))), .ref v0]) (M' := M79) (lv' := [(0, .ref v0)]) ?_ rfl rfl rfl e80
  obtain ⟨h81, h⟩ := os_1 h
  refine go_putR 20 hC h81 rfl rfl (C := RX5) (T := TX5) (N := 28) rfl inlX5 tyX5 tyX5_ok nmX5 (by decide) m_94 (Or.inl rfl) (Or.inr ⟨rfl, rfl, hnm⟩) (tyX5_ok 20 (by decide)) rfl rfl dX5_init_164 ?_
  obtain ⟨M82, e83, h⟩ := os_l h
  refine go_eq (pc' := 167) (st' := []) (M' := M82) (lv' := [(0, .ref v0)]) ?_ rfl rfl rfl e83
  refine go_aload_n hC dX5_init_167 rfl 0 rfl ?_
  refine go_sipush hC dX5_init_168 (v := (200 : Int32)) (by decide +kernel) ?_
  obtain ⟨h84, h⟩ := os_1 h
  refine go_newZ hE m_77 h84.1 h84.2.1 h84.2.2.1 h84.2.2.2 dX5_init_171 ?_
  obtain ⟨h85, h⟩ := os_1 h
  refine go_putR 21 hC h85 rfl rfl (C := RX5) (T := TX5) (N := 28) rfl inlX5 tyX5 tyX5_ok nmX5 (by decide) m_95 (Or.inl rfl) (Or.inr ⟨rfl, rfl, hnm⟩) (tyX5_ok 21 (by decide)) rfl rfl dX5_init_173 ?_
  obtain ⟨M86, e87, h⟩ := os_l h
  refine go_eq (pc' := 176) (st' := []) (M' := M86) (lv' := [(0, .ref v0)]) ?_ rfl rfl rfl e87
  refine go_aload_n hC dX5_init_176 rfl 0 rfl ?_
  refine go_sipush hC dX5_init_177 (v := (1200 : Int32)) (by decide +kernel) ?_
  obtain ⟨h88, h⟩ := os_1 h
  refine go_newI hE m_29 h88.1 h88.2.1 h88.2.2.1 h88.2.2.2 dX5_init_180 ?_
  obtain ⟨M89, e90, h⟩ := os_l h
  refine go_eq (pc' := 182) (st' := [.ref (mX M86), .ref v0]) (M' := M89) (lv' := [(0, .ref v0)]) ?_ rfl rfl rfl e90
  obtain ⟨h91, h⟩ := os_1 h
  refine go_putR 22 hC h91 rfl rfl (C := RX5) (T := TX5) (N := 28) rfl inlX5 tyX5 tyX5_ok nmX5 (by decide) m_96 (Or.inl rfl) (Or.inr ⟨rfl, rfl, hnm⟩) (tyX5_ok 22 (by decide)) rfl rfl dX5_init_182 ?_
  refine go_aload_n hC dX5_init_185 rfl 0 rfl ?_
  refine go_sipush hC dX5_init_186 (v := (300 : Int32)) (by decide +kernel) ?_
  obtain ⟨h92, h⟩ := os_1 h
  refine go_newI hE m_29 h92.1 h92.2.1 h92.2.2.1 h92.2.2.2 dX5_init_189 ?_
  obtain ⟨M93, e94, h⟩ := os_l h
  refine go_eq (pc' := 191) (st' := [.ref (mX (sP M89 v0 22 (some (mX M86)))), .ref v0]) (M' := M93) (lv' := [(0, .ref v0)]) ?_ rfl rfl rfl e94
  obtain ⟨h95, h⟩ := os_1 h
  refine go_putR 25 hC h95 rfl rfl (C := RX5) (T := TX5) (N := 28) rfl inlX5 tyX5 tyX5_ok nmX5 (by decide) m_97 (Or.inl rfl) (Or.inr ⟨rfl, rfl, hnm⟩) (tyX5_ok 25 (by decide)) rfl rfl dX5_init_191 ?_
  refine go_aload_n hC dX5_init_194 rfl 0 rfl ?_
  refine go_iconst hC dX5_init_195 (v := (2 : Int32)) (by decide +kernel) ?_
  obtain ⟨h99, h⟩ := os_1 h
  obtain ⟨r96, M97, h98, h⟩ := os_c h
  refine go_callV (bytes := cX5_begins) (maxL := 3) (ret := none) (n := 1) (As := [.int (2 : Int32)]) (st := []) hE (c_X5_begins K.2.1 h98) (by unfold okY; decide +kernel) rfl h99 rfl (C := RX5) (T := TX5) (N := 28) rfl m_101 m_98 m_99 m_100 m_5 rfl (by simp [Value.category]) (by decide) (by decide) dX5_init_196 ?_
  refine go_eq (pc' := 199) (st' := []) (M' := M97) (lv' := [(0, .ref v0)]) ?_ rfl rfl rfl rfl
  cases h
  exact go_vret hE dX5_init_199
theorem c_X5_init (l : Launch) {x9 : Cx} {k9 : Nat} {M M9 : Mm} {r9 : Unit} {v0 : Nat} (h : fX5_init x9 k9 v0 M = some (r9, M9)) : Fn l x9 yX5_init cX5_init 1 none 1 22 [.ref v0] M none M9 :=
  Fn.of (by decide +kernel) (Nat.le_of_ble_eq_true rfl) rfl (fun K _ hE => tX5_init_0 hE _ _ h)
