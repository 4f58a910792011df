/-! X4_spellStart -/
def fX4_spellStart_2 (x9 : Cx) (k9 : Nat) : Nat → Nat → Nat → Int32 → Mm → Option (Unit × Mm)
  | 0, _, _, _, _ => none
  | n9 + 1, v0, v1, v2, M => if mK M v0 = 5 then if (mV M v0 4) ≤ v2 then some ((), M) else if mK M v0 = 5 then ob1 (mP M v0 3) (fun b4 => if mK M v1 = 4 then ob1 (mP M v1 4) (fun b7 => if mK M b7 = 8 ∧ ¬ (v2 < 0 ∨ mN M b7 ≤ (v2).toNatClampNeg) then if mK M b4 = 1 then ob2 (fX0_putTwo x9 k9 b4 (mV M b7 (v2).toNatClampNeg) M) (fun r10 M11 => fX4_spellStart_2 x9 k9 n9 v0 v1 (v2 + 1) M11) else none else none) else none) else none else none
set_option maxRecDepth 100000 in
set_option maxHeartbeats 4000000 in
theorem tX4_spellStart_2 {x9 : Cx} {K : Ct} {k9 : Nat} {M0 M9 : Mm} {r9 : Unit} (hE : Ce x9 K RX4 cX4_spellStart 3 none 2 43 "spellStart" M0) : ∀ (n9 : Nat) (v0 : Nat) (v1 : Nat) (v2 : Int32) (M : Mm), fX4_spellStart_2 x9 k9 n9 v0 v1 v2 M = some (r9, M9) → Go x9 K 3 (Qf x9 K M0 none M9) 2 [(0, .ref v0), (1, .ref v1), (2, .int v2)] [] M := by
  have hC := hE.1
  have hnm := hE.2.2.2.2.2.2.2.1
  intro n9
  induction n9 with
  | zero => intro _ _ _ _ h; cases h
  | succ n9 ih =>
    intro v0 v1 v2 M h
    rw [fX4_spellStart_2] at h
    refine go_iload_n hC dX4_spellStart_2 rfl 2 rfl ?_
    refine go_aload_n hC dX4_spellStart_3 rfl 0 rfl ?_
    obtain ⟨h1, h⟩ := os_1 h
    refine go_getV 4 hC h1 rfl rfl (C := RX4) (T := TX4) (N := 7) rfl inlX4 (by decide) m_55 (Or.inl rfl) dX4_spellStart_4 ?_
    refine go_icmp_ge (t := 29) hC dX4_spellStart_7 (by decide) (fun c2 => ?_) (fun c2 => ?_)
    · have h := os_t h c2
      cases h
      exact go_vret hE dX4_spellStart_29
    · have h := os_f h c2
      refine go_aload_n hC dX4_spellStart_10 rfl 0 rfl ?_
      obtain ⟨h3, h⟩ := os_1 h
      obtain ⟨b4, h5, h⟩ := os_b h
      refine go_getR 3 hC h3 rfl rfl h5 (C := RX4) (T := TX4) (N := 7) rfl inlX4 (by decide) m_25 (Or.inl rfl) dX4_spellStart_11 ?_
      refine go_aload_n hC dX4_spellStart_14 rfl 1 rfl ?_
      obtain ⟨h6, h⟩ := os_1 h
      obtain ⟨b7, h8, h⟩ := os_b h
      refine go_getR 4 hC h6 rfl rfl h8 (C := RX3) (T := TX3) (N := 16) rfl inlX3 (by decide) m_266 (Or.inl rfl) dX4_spellStart_15 ?_
      refine go_iload_n hC dX4_spellStart_18 rfl 2 rfl ?_
      obtain ⟨h9, h⟩ := os_1 h
      refine go_iald hC h9.1 h9.2 dX4_spellStart_19 ?_
      obtain ⟨h13, h⟩ := os_1 h
      obtain ⟨r10, M11, h12, h⟩ := os_c h
      refine go_callV (bytes := cX0_putTwo) (maxL := 2) (ret := none) (n := 1) (As := [.int (mV M b7 (v2).toNatClampNeg)]) (st := []) hE (c_X0_putTwo K.2.1 h12) (by unfold okY; decide +kernel) rfl h13 rfl (C := RX0) (T := TX0) (N := 4) rfl m_682 m_679 m_680 m_681 m_24 rfl (by simp [Value.category]) (by decide) (by decide) dX4_spellStart_20 ?_
      refine go_eq (pc' := 23) (st' := []) (M' := M11) (lv' := [(0, .ref v0), (1, .ref v1), (2, .int v2)]) ?_ rfl rfl rfl rfl
      refine go_iinc (q := 2) (v := (v2 + 1)) (lv' := [(2, .int (v2 + 1)), (0, .ref v0), (1, .ref v1)]) hC dX4_spellStart_23 rfl rfl (by decide) rfl ?_
      refine go_goto (t := 2) hC dX4_spellStart_26 (by decide) ?_
      refine go_sub (lv' := [(0, .ref v0), (1, .ref v1), (2, .int (v2 + 1))]) [1, 2, 0] rfl ?_
      exact ih _ _ _ _ h
def fX4_spellStart (x9 : Cx) (k9 : Nat) (v0 : Nat) (v1 : Nat) (M : Mm) : Option (Unit × Mm) :=
  fX4_spellStart_2 x9 k9 k9 v0 v1 (0 : Int32) M
set_option maxRecDepth 100000 in
set_option maxHeartbeats 4000000 in
theorem tX4_spellStart_0 {x9 : Cx} {K : Ct} {k9 : Nat} {M0 M9 : Mm} {r9 : Unit} (hE : Ce x9 K RX4 cX4_spellStart 3 none 2 43 "spellStart" M0) (v0 : Nat) (v1 : Nat) (M : Mm) (h : fX4_spellStart x9 k9 v0 v1 M = some (r9, M9)) : Go x9 K 3 (Qf x9 K M0 none M9) 0 [(0, .ref v0), (1, .ref v1)] [] M := by
  have hC := hE.1
  have hnm := hE.2.2.2.2.2.2.2.1
  unfold fX4_spellStart at h
  refine go_iconst hC dX4_spellStart_0 (v := (0 : Int32)) (by decide +kernel) ?_
  refine go_istore_n (lv' := [(2, .int (0 : Int32)), (0, .ref v0), (1, .ref v1)]) hC dX4_spellStart_1 rfl (by decide) rfl ?_
  refine go_sub (lv' := [(0, .ref v0), (1, .ref v1), (2, .int (0 : Int32))]) [1, 2, 0] rfl ?_
  exact tX4_spellStart_2 hE k9 _ _ _ _ h
theorem c_X4_spellStart (l : Launch) {x9 : Cx} {k9 : Nat} {M M9 : Mm} {r9 : Unit} {v0 : Nat} {v1 : Nat} (h : fX4_spellStart x9 k9 v0 v1 M = some (r9, M9)) : Fn l x9 yX4_spellStart cX4_spellStart 3 none 2 43 [.ref v0, .ref v1] M none M9 :=
  Fn.of (by decide +kernel) (Nat.le_of_ble_eq_true rfl) rfl (fun K _ hE => tX4_spellStart_0 hE _ _ _ h)
/-! X4_spellAsked -/
def fX4_spellAsked_70 (x9 : Cx) (k9 : Nat) (rec43 : Nat → Nat → Int32 → Int32 → Mm → Option (Unit × Mm)) (v0 : Nat) (v1 : Nat) (v2 : Int32) (v4 : Int32) (M : Mm) : Option (Unit × Mm) :=
  rec43 v0 v1 v2 (v4 + 1) M
set_option maxRecDepth 100000 in
set_option maxHeartbeats 4000000 in
theorem tX4_spellAsked_70 {x9 : Cx} {K : Ct} {k9 : Nat} {M0 M9 : Mm} {r9 : Unit} (hE : Ce x9 K RX4 cX4_spellAsked 5 none 3 65 "spellAsked" M0) {rec43 : Nat → Nat → Int32 → Int32 → Mm → Option (Unit × Mm)} (hrec43 : ∀ (v0 : Nat) (v1 : Nat) (v2 : Int32) (v4 : Int32) (M : Mm), rec43 v0 v1 v2 v4 M = some (r9, M9) → Go x9 K 5 (Qf x9 K M0 none M9) 43 [(0, .ref v0), (1, .ref v1), (2, .int v2), (4, .int v4)] [] M) (v0 : Nat) (v1 : Nat) (v2 : Int32) (v4 : Int32) (M : Mm) (h : fX4_spellAsked_70 x9 k9 rec43 v0 v1 v2 v4 M = some (r9, M9)) : Go x9 K 5 (Qf x9 K M0 none M9) 70 [(0, .ref v0), (1, .ref v1), (2, .int v2), (4, .int v4)] [] M := by
  have hC := hE.1
  have hnm := hE.2.2.2.2.2.2.2.1
  unfold fX4_spellAsked_70 at h
  refine go_iinc (q := 3) (v := (v4 + 1)) (lv' := [(4, .int (v4 + 1)), (0, .ref v0), (1, .ref v1), (2, .int v2)]) hC dX4_spellAsked_70 rfl rfl (by decide) rfl ?_
  refine go_goto (t := 43) hC dX4_spellAsked_73 (by decide) ?_
  refine go_sub (lv' := [(0, .ref v0), (1, .ref v1), (2, .int v2), (4, .int (v4 + 1))]) [1, 2, 3, 0] rfl ?_
  exact hrec43 _ _ _ _ _ h
def fX4_spellAsked_43 (x9 : Cx) (k9 : Nat) : Nat → Nat → Nat → Int32 → Int32 → Mm → Option (Unit × Mm)
  | 0, _, _, _, _, _ => none
  | n9 + 1, v0, v1, v2, v4, M => if (20 : Int32) ≤ v4 then some ((), M) else if mK M v0 = 5 then ob2 (fX4_hasWithHome x9 k9 v0 v1 v4 v2 M) (fun r2 M3 => if r2 = 0 then fX4_spellAsked_70 x9 k9 (fX4_spellAsked_43 x9 k9 n9) v0 v1 v2 v4 M3 else if mK M3 v0 = 5 then ob1 (mP M3 v0 3) (fun b8 => if mK M3 b8 = 1 then ob2 (fX0_put x9 k9 b8 v4 M3) (fun r10 M11 => fX4_spellAsked_70 x9 k9 (fX4_spellAsked_43 x9 k9 n9) v0 v1 v2 v4 M11) else none) else none) else none
set_option maxRecDepth 100000 in
set_option maxHeartbeats 4000000 in
theorem tX4_spellAsked_43 {x9 : Cx} {K : Ct} {k9 : Nat} {M0 M9 : Mm} {r9 : Unit} (hE : Ce x9 K RX4 cX4_spellAsked 5 none 3 65 "spellAsked" M0) : ∀ (n9 : Nat) (v0 : Nat) (v1 : Nat) (v2 : Int32) (v4 : Int32) (M : Mm), fX4_spellAsked_43 x9 k9 n9 v0 v1 v2 v4 M = some (r9, M9) → Go x9 K 5 (Qf x9 K M0 none M9) 43 [(0, .ref v0), (1, .ref v1), (2, .int v2), (4, .int v4)] [] M := by
  have hC := hE.1
  have hnm := hE.2.2.2.2.2.2.2.1
  intro n9
  induction n9 with
  | zero => intro _ _ _ _ _ h; cases h
  | succ n9 ih =>
    intro v0 v1 v2 v4 M h
    rw [fX4_spellAsked_43] at h
    refine go_iload hC dX4_spellAsked_43 3 rfl ?_
    refine go_bipush hC dX4_spellAsked_45 (v := (20 : Int32)) (by decide +kernel) ?_
    refine go_icmp_ge (t := 76) hC dX4_spellAsked_47 (by decide) (fun c1 => ?_) (fun c1 => ?_)
    · have h := os_t h c1
      cases h
      exact go_vret hE dX4_spellAsked_76
    · have h := os_f h c1
      refine go_aload_n hC dX4_spellAsked_50 rfl 0 rfl ?_
      refine go_aload_n hC dX4_spellAsked_51 rfl 1 rfl ?_
      refine go_iload hC dX4_spellAsked_52 3 rfl ?_
      refine go_iload_n hC dX4_spellAsked_54 rfl 2 rfl ?_
      obtain ⟨h5, h⟩ := os_1 h
      obtain ⟨r2, M3, h4, h⟩ := os_c h
      refine go_callV (bytes := cX4_hasWithHome) (maxL := 4) (ret := (some .boolean)) (n := 3) (As := [.ref v1, .int v4, .int v2]) (st := []) hE (c_X4_hasWithHome K.2.1 h4) (by unfold okY; decide +kernel) rfl h5 rfl (C := RX4) (T := TX4) (N := 7) rfl m_407 m_404 m_405 m_406 m_2 rfl (by simp [Value.category]) (by decide) (by decide) dX4_spellAsked_55 ?_
      refine go_eq (pc' := 58) (st' := [.int r2]) (M' := M3) (lv' := [(0, .ref v0), (1, .ref v1), (2, .int v2), (4, .int v4)]) ?_ rfl rfl rfl rfl
      refine go_if_eq (t := 70) hC dX4_spellAsked_58 (by decide) (fun c6 => ?_) (fun c6 => ?_)
      · have h := os_t h c6
        exact tX4_spellAsked_70 hE ih _ _ _ _ _ h
      · have h := os_f h c6
        refine go_aload_n hC dX4_spellAsked_61 rfl 0 rfl ?_
        obtain ⟨h7, h⟩ := os_1 h
        obtain ⟨b8, h9, h⟩ := os_b h
        refine go_getR 3 hC h7 rfl rfl h9 (C := RX4) (T := TX4) (N := 7) rfl inlX4 (by decide) m_25 (Or.inl rfl) dX4_spellAsked_62 ?_
        refine go_iload hC dX4_spellAsked_65 3 rfl ?_
        obtain ⟨h13, h⟩ := os_1 h
        obtain ⟨r10, M11, h12, h⟩ := os_c h
        refine go_callV (bytes := cX0_put) (maxL := 3) (ret := none) (n := 1) (As := [.int v4]) (st := []) hE (c_X0_put K.2.1 h12) (by unfold okY; decide +kernel) rfl h13 rfl (C := RX0) (T := TX0) (N := 4) rfl m_677 m_674 m_675 m_676 m_24 rfl (by simp [Value.category]) (by decide) (by decide) dX4_spellAsked_67 ?_
        refine go_eq (pc' := 70) (st' := []) (M' := M11) (lv' := [(0, .ref v0), (1, .ref v1), (2, .int v2), (4, .int v4)]) ?_ rfl rfl rfl rfl
        exact tX4_spellAsked_70 hE ih _ _ _ _ _ h
def fX4_spellAsked_26 (x9 : Cx) (k9 : Nat) (rec5 : Nat → Nat → Int32 → Int32 → Int32 → Mm → Option (Unit × Mm)) (v0 : Nat) (v1 : Nat) (v2 : Int32) (v3 : Int32) (v4 : Int32) (M : Mm) : Option (Unit × Mm) :=
  rec5 v0 v1 v2 v3 (v4 + 1) M
set_option maxRecDepth 100000 in
set_option maxHeartbeats 4000000 in
theorem tX4_spellAsked_26 {x9 : Cx} {K : Ct} {k9 : Nat} {M0 M9 : Mm} {r9 : Unit} (hE : Ce x9 K RX4 cX4_spellAsked 5 none 3 65 "spellAsked" M0) {rec5 : Nat → Nat → Int32 → Int32 → Int32 → Mm → Option (Unit × Mm)} (hrec5 : ∀ (v0 : Nat) (v1 : Nat) (v2 : Int32) (v3 : Int32) (v4 : Int32) (M : Mm), rec5 v0 v1 v2 v3 v4 M = some (r9, M9) → Go x9 K 5 (Qf x9 K M0 none M9) 5 [(0, .ref v0), (1, .ref v1), (2, .int v2), (3, .int v3), (4, .int v4)] [] M) (v0 : Nat) (v1 : Nat) (v2 : Int32) (v3 : Int32) (v4 : Int32) (M : Mm) (h : fX4_spellAsked_26 x9 k9 rec5 v0 v1 v2 v3 v4 M = some (r9, M9)) : Go x9 K 5 (Qf x9 K M0 none M9) 26 [(0, .ref v0), (1, .ref v1), (2, .int v2), (3, .int v3), (4, .int v4)] [] M := by
  have hC := hE.1
  have hnm := hE.2.2.2.2.2.2.2.1
  unfold fX4_spellAsked_26 at h
  refine go_iinc (q := 4) (v := (v4 + 1)) (lv' := [(4, .int (v4 + 1)), (0, .ref v0), (1, .ref v1), (2, .int v2), (3, .int v3)]) hC dX4_spellAsked_26 rfl rfl (by decide) rfl ?_
  refine go_goto (t := 5) hC dX4_spellAsked_29 (by decide) ?_
  refine go_sub (lv' := [(0, .ref v0), (1, .ref v1), (2, .int v2), (3, .int v3), (4, .int (v4 + 1))]) [1, 2, 3, 4, 0] rfl ?_
  exact hrec5 _ _ _ _ _ _ h
def fX4_spellAsked_5 (x9 : Cx) (k9 : Nat) : Nat → Nat → Nat → Int32 → Int32 → Int32 → Mm → Option (Unit × Mm)
  | 0, _, _, _, _, _, _ => none
  | n9 + 1, v0, v1, v2, v3, v4, M => if (20 : Int32) ≤ v4 then if mK M v0 = 5 then ob1 (mP M v0 3) (fun b3 => if mK M b3 = 1 then ob2 (fX0_put x9 k9 b3 v3 M) (fun r5 M6 => fX4_spellAsked_43 x9 k9 k9 v0 v1 v2 (0 : Int32) M6) else none) else none else if mK M v0 = 5 then ob2 (fX4_hasWithHome x9 k9 v0 v1 v4 v2 M) (fun r9 M10 => if r9 = 0 then fX4_spellAsked_26 x9 k9 (fX4_spellAsked_5 x9 k9 n9) v0 v1 v2 v3 v4 M10 else fX4_spellAsked_26 x9 k9 (fX4_spellAsked_5 x9 k9 n9) v0 v1 v2 (v3 + 1) v4 M10) else none
set_option maxRecDepth 100000 in
set_option maxHeartbeats 4000000 in
theorem tX4_spellAsked_5 {x9 : Cx} {K : Ct} {k9 : Nat} {M0 M9 : Mm} {r9 : Unit} (hE : Ce x9 K RX4 cX4_spellAsked 5 none 3 65 "spellAsked" M0) : ∀ (n9 : Nat) (v0 : Nat) (v1 : Nat) (v2 : Int32) (v3 : Int32) (v4 : Int32) (M : Mm), fX4_spellAsked_5 x9 k9 n9 v0 v1 v2 v3 v4 M = some (r9, M9) → Go x9 K 5 (Qf x9 K M0 none M9) 5 [(0, .ref v0), (1, .ref v1), (2, .int v2), (3, .int v3), (4, .int v4)] [] M := by
  have hC := hE.1
  have hnm := hE.2.2.2.2.2.2.2.1
  intro n9
  induction n9 with
  | zero => intro _ _ _ _ _ _ h; cases h
  | succ n9 ih =>
    intro v0 v1 v2 v3 v4 M h
    rw [fX4_spellAsked_5] at h
    refine go_iload hC dX4_spellAsked_5 4 rfl ?_
    refine go_bipush hC dX4_spellAsked_7 (v := (20 : Int32)) (by decide +kernel) ?_
    refine go_icmp_ge (t := 32) hC dX4_spellAsked_9 (by decide) (fun c1 => ?_) (fun c1 => ?_)
    · have h := os_t h c1
      refine go_aload_n hC dX4_spellAsked_32 rfl 0 rfl ?_
      obtain ⟨h2, h⟩ := os_1 h
      obtain ⟨b3, h4, h⟩ := os_b h
      refine go_getR 3 hC h2 rfl rfl h4 (C := RX4) (T := TX4) (N := 7) rfl inlX4 (by decide) m_25 (Or.inl rfl) dX4_spellAsked_33 ?_
      refine go_iload_n hC dX4_spellAsked_36 rfl 3 rfl ?_
      obtain ⟨h8, h⟩ := os_1 h
      obtain ⟨r5, M6, h7, h⟩ := os_c h
      refine go_callV (bytes := cX0_put) (maxL := 3) (ret := none) (n := 1) (As := [.int v3]) (st := []) hE (c_X0_put K.2.1 h7) (by unfold okY; decide +kernel) rfl h8 rfl (C := RX0) (T := TX0) (N := 4) rfl m_677 m_674 m_675 m_676 m_24 rfl (by simp [Value.category]) (by decide) (by decide) dX4_spellAsked_37 ?_
      refine go_eq (pc' := 40) (st' := []) (M' := M6) (lv' := [(0, .ref v0), (1, .ref v1), (2, .int v2), (3, .int v3), (4, .int v4)]) ?_ rfl rfl rfl rfl
      refine go_iconst hC dX4_spellAsked_40 (v := (0 : Int32)) (by decide +kernel) ?_
      refine go_istore (lv' := [(4, .int (0 : Int32)), (0, .ref v0), (1, .ref v1), (2, .int v2), (3, .int v3)]) hC dX4_spellAsked_41 (by decide) rfl ?_
      refine go_sub (lv' := [(0, .ref v0), (1, .ref v1), (2, .int v2), (4, .int (0 : Int32))]) [1, 2, 3, 0] rfl ?_
      exact tX4_spellAsked_43 hE k9 _ _ _ _ _ h
    · have h := os_f h c1
      refine go_aload_n hC dX4_spellAsked_12 rfl 0 rfl ?_
      refine go_aload_n hC dX4_spellAsked_13 rfl 1 rfl ?_
      refine go_iload hC dX4_spellAsked_14 4 rfl ?_
      refine go_iload_n hC dX4_spellAsked_16 rfl 2 rfl ?_
      obtain ⟨h12, h⟩ := os_1 h
      obtain ⟨r9, M10, h11, h⟩ := os_c h
      refine go_callV (bytes := cX4_hasWithHome) (maxL := 4) (ret := (some .boolean)) (n := 3) (As := [.ref v1, .int v4, .int v2]) (st := []) hE (c_X4_hasWithHome K.2.1 h11) (by unfold okY; decide +kernel) rfl h12 rfl (C := RX4) (T := TX4) (N := 7) rfl m_407 m_404 m_405 m_406 m_2 rfl (by simp [Value.category]) (by decide) (by decide) dX4_spellAsked_17 ?_
      refine go_eq (pc' := 20) (st' := [.int r9]) (M' := M10) (lv' := [(0, .ref v0), (1, .ref v1), (2, .int v2), (3, .int v3), (4, .int v4)]) ?_ rfl rfl rfl rfl
      refine go_if_eq (t := 26) hC dX4_spellAsked_20 (by decide) (fun c13 => ?_) (fun c13 => ?_)
      · have h := os_t h c13
        exact tX4_spellAsked_26 hE ih _ _ _ _ _ _ h
      · have h := os_f h c13
        refine go_iinc (q := 3) (v := (v3 + 1)) (lv' := [(3, .int (v3 + 1)), (0, .ref v0), (1, .ref v1), (2, .int v2), (4, .int v4)]) hC dX4_spellAsked_23 rfl rfl (by decide) rfl ?_
        refine go_sub (lv' := [(0, .ref v0), (1, .ref v1), (2, .int v2), (3, .int (v3 + 1)), (4, .int v4)]) [1, 2, 3, 0, 4] rfl ?_
        exact tX4_spellAsked_26 hE ih _ _ _ _ _ _ h
def fX4_spellAsked (x9 : Cx) (k9 : Nat) (v0 : Nat) (v1 : Nat) (v2 : Int32) (M : Mm) : Option (Unit × Mm) :=
  fX4_spellAsked_5 x9 k9 k9 v0 v1 v2 (0 : Int32) (0 : Int32) M
set_option maxRecDepth 100000 in
set_option maxHeartbeats 4000000 in
theorem tX4_spellAsked_0 {x9 : Cx} {K : Ct} {k9 : Nat} {M0 M9 : Mm} {r9 : Unit} (hE : Ce x9 K RX4 cX4_spellAsked 5 none 3 65 "spellAsked" M0) (v0 : Nat) (v1 : Nat) (v2 : Int32) (M : Mm) (h : fX4_spellAsked x9 k9 v0 v1 v2 M = some (r9, M9)) : Go x9 K 5 (Qf x9 K M0 none M9) 0 [(0, .ref v0), (1, .ref v1), (2, .int v2)] [] M := by
  have hC := hE.1
  have hnm := hE.2.2.2.2.2.2.2.1
  unfold fX4_spellAsked at h
  refine go_iconst hC dX4_spellAsked_0 (v := (0 : Int32)) (by decide +kernel) ?_
  refine go_istore_n (lv' := [(3, .int (0 : Int32)), (0, .ref v0), (1, .ref v1), (2, .int v2)]) hC dX4_spellAsked_1 rfl (by decide) rfl ?_
  refine go_iconst hC dX4_spellAsked_2 (v := (0 : Int32)) (by decide +kernel) ?_
  refine go_istore (lv' := [(4, .int (0 : Int32)), (3, .int (0 : Int32)), (0, .ref v0), (1, .ref v1), (2, .int v2)]) hC dX4_spellAsked_3 (by decide) rfl ?_
  refine go_sub (lv' := [(0, .ref v0), (1, .ref v1), (2, .int v2), (3, .int (0 : Int32)), (4, .int (0 : Int32))]) [2, 3, 4, 1, 0] rfl ?_
  exact tX4_spellAsked_5 hE k9 _ _ _ _ _ _ h
theorem c_X4_spellAsked (l : Launch) {x9 : Cx} {k9 : Nat} {M M9 : Mm} {r9 : Unit} {v0 : Nat} {v1 : Nat} {v2 : Int32} (h : fX4_spellAsked x9 k9 v0 v1 v2 M = some (r9, M9)) : Fn l x9 yX4_spellAsked cX4_spellAsked 5 none 3 65 [.ref v0, .ref v1, .int v2] M none M9 :=
  Fn.of (by decide +kernel) (Nat.le_of_ble_eq_true rfl) rfl (fun K _ hE => tX4_spellAsked_0 hE _ _ _ _ h)
/-! X4_spellChanges -/
def fX4_spellChanges_13 (x9 : Cx) (k9 : Nat) : Nat → Nat → Nat → Int32 → Mm → Option (Unit × Mm)
  | 0, _, _, _, _ => none
  | n9 + 1, v0, v1, v2, M => if mK M v1 = 4 then if (mV M v1 7) ≤ v2 then some ((), M) else if mK M v0 = 5 then ob1 (mP M v0 3) (fun b4 => if mK M v1 = 4 then ob1 (mP M v1 8) (fun b7 => if mK M b7 = 8 ∧ ¬ (v2 < 0 ∨ mN M b7 ≤ (v2).toNatClampNeg) then if mK M b4 = 1 then ob2 (fX0_put x9 k9 b4 (mV M b7 (v2).toNatClampNeg) M) (fun r10 M11 => if mK M11 v0 = 5 then ob1 (mP M11 v0 3) (fun b15 => if mK M11 v1 = 4 then ob1 (mP M11 v1 9) (fun b18 => if mK M11 b18 = 8 ∧ ¬ (v2 < 0 ∨ mN M11 b18 ≤ (v2).toNatClampNeg) then if mK M11 b15 = 1 then ob2 (fX0_put x9 k9 b15 (mV M11 b18 (v2).toNatClampNeg) M11) (fun r21 M22 => fX4_spellChanges_13 x9 k9 n9 v0 v1 (v2 + 1) M22) else none else none) else none) else none) else none else none) else none) else none else none
set_option maxRecDepth 100000 in
set_option maxHeartbeats 4000000 in
theorem tX4_spellChanges_13 {x9 : Cx} {K : Ct} {k9 : Nat} {M0 M9 : Mm} {r9 : Unit} (hE : Ce x9 K RX4 cX4_spellChanges 3 none 1 22 "spellChanges" M0) : ∀ (n9 : Nat) (v0 : Nat) (v1 : Nat) (v2 : Int32) (M : Mm), fX4_spellChanges_13 x9 k9 n9 v0 v1 v2 M = some (r9, M9) → Go x9 K 3 (Qf x9 K M0 none M9) 13 [(0, .ref v0), (1, .ref v1), (2, .int v2)] [] M := by
  have hC := hE.1
  have hnm := hE.2.2.2.2.2.2.2.1
  intro n9
  induction n9 with
  | zero => intro _ _ _ _ h; cases h
  | succ n9 ih =>
    intro v0 v1 v2 M h
    rw [fX4_spellChanges_13] at h
    refine go_iload_n hC dX4_spellChanges_13 rfl 2 rfl ?_
    refine go_aload_n hC dX4_spellChanges_14 rfl 1 rfl ?_
    obtain ⟨h1, h⟩ := os_1 h
    refine go_getV 7 hC h1 rfl rfl (C := RX3) (T := TX3) (N := 16) rfl inlX3 (by decide) m_347 (Or.inl rfl) dX4_spellChanges_15 ?_
    refine go_icmp_ge (t := 53) hC dX4_spellChanges_18 (by decide) (fun c2 => ?_) (fun c2 => ?_)
    · have h := os_t h c2
      cases h
      exact go_vret hE dX4_spellChanges_53
    · have h := os_f h c2
      refine go_aload_n hC dX4_spellChanges_21 rfl 0 rfl ?_
      obtain ⟨h3, h⟩ := os_1 h
      obtain ⟨b4, h5, h⟩ := os_b h
      refine go_getR 3 hC h3 rfl rfl h5 (C := RX4) (T := TX4) (N := 7) rfl inlX4 (by decide) m_25 (Or.inl rfl) dX4_spellChanges_22 ?_
      refine go_aload_n hC dX4_spellChanges_25 rfl 1 rfl ?_
      obtain ⟨h6, h⟩ := os_1 h
      obtain ⟨b7, h8, h⟩ := os_b h
      refine go_getR 8 hC h6 rfl rfl h8 (C := RX3) (T := TX3) (N := 16) rfl inlX3 (by decide) m_348 (Or.inl rfl) dX4_spellChanges_26 ?_
      refine go_iload_n hC dX4_spellChanges_29 rfl 2 rfl ?_
      obtain ⟨h9, h⟩ := os_1 h
      refine go_iald hC h9.1 h9.2 dX4_spellChanges_30 ?_
      obtain ⟨h13, h⟩ := os_1 h
      obtain ⟨r10, M11, h12, h⟩ := os_c h
      refine go_callV (bytes := cX0_put) (maxL := 3) (ret := none) (n := 1) (As := [.int (mV M b7 (v2).toNatClampNeg)]) (st := []) hE (c_X0_put K.2.1 h12) (by unfold okY; decide +kernel) rfl h13 rfl (C := RX0) (T := TX0) (N := 4) rfl m_677 m_674 m_675 m_676 m_24 rfl (by simp [Value.category]) (by decide) (by decide) dX4_spellChanges_31 ?_
      refine go_eq (pc' := 34) (st' := []) (M' := M11) (lv' := [(0, .ref v0), (1, .ref v1), (2, .int v2)]) ?_ rfl rfl rfl rfl
      refine go_aload_n hC dX4_spellChanges_34 rfl 0 rfl ?_
      obtain ⟨h14, h⟩ := os_1 h
      obtain ⟨b15, h16, h⟩ := os_b h
      refine go_getR 3 hC h14 rfl rfl h16 (C := RX4) (T := TX4) (N := 7) rfl inlX4 (by decide) m_25 (Or.inl rfl) dX4_spellChanges_35 ?_
      refine go_aload_n hC dX4_spellChanges_38 rfl 1 rfl ?_
      obtain ⟨h17, h⟩ := os_1 h
      obtain ⟨b18, h19, h⟩ := os_b h
      refine go_getR 9 hC h17 rfl rfl h19 (C := RX3) (T := TX3) (N := 16) rfl inlX3 (by decide) m_349 (Or.inl rfl) dX4_spellChanges_39 ?_
      refine go_iload_n hC dX4_spellChanges_42 rfl 2 rfl ?_
      obtain ⟨h20, h⟩ := os_1 h
      refine go_iald hC h20.1 h20.2 dX4_spellChanges_43 ?_
      obtain ⟨h24, h⟩ := os_1 h
      obtain ⟨r21, M22, h23, h⟩ := os_c h
      refine go_callV (bytes := cX0_put) (maxL := 3) (ret := none) (n := 1) (As := [.int (mV M11 b18 (v2).toNatClampNeg)]) (st := []) hE (c_X0_put K.2.1 h23) (by unfold okY; decide +kernel) rfl h24 rfl (C := RX0) (T := TX0) (N := 4) rfl m_677 m_674 m_675 m_676 m_24 rfl (by simp [Value.category]) (by decide) (by decide) dX4_spellChanges_44 ?_
      refine go_eq (pc' := 47) (st' := []) (M' := M22) (lv' := [(0, .ref v0), (1, .ref v1), (2, .int v2)]) ?_ rfl rfl rfl rfl
      refine go_iinc (q := 2) (v := (v2 + 1)) (lv' := [(2, .int (v2 + 1)), (0, .ref v0), (1, .ref v1)]) hC dX4_spellChanges_47 rfl rfl (by decide) rfl ?_
      refine go_goto (t := 13) hC dX4_spellChanges_50 (by decide) ?_
      refine go_sub (lv' := [(0, .ref v0), (1, .ref v1), (2, .int (v2 + 1))]) [1, 2, 0] rfl ?_
      exact ih _ _ _ _ h
def fX4_spellChanges (x9 : Cx) (k9 : Nat) (v0 : Nat) (v1 : Nat) (M : Mm) : Option (Unit × Mm) :=
  if mK M v0 = 5 then ob1 (mP M v0 3) (fun b2 => if mK M v1 = 4 then if mK M b2 = 1 then ob2 (fX0_put x9 k9 b2 (mV M v1 7) M) (fun r5 M6 => fX4_spellChanges_13 x9 k9 k9 v0 v1 (0 : Int32) M6) else none else none) else none
set_option maxRecDepth 100000 in
set_option maxHeartbeats 4000000 in
theorem tX4_spellChanges_0 {x9 : Cx} {K : Ct} {k9 : Nat} {M0 M9 : Mm} {r9 : Unit} (hE : Ce x9 K RX4 cX4_spellChanges 3 none 1 22 "spellChanges" M0) (v0 : Nat) (v1 : Nat) (M : Mm) (h : fX4_spellChanges x9 k9 v0 v1 M = some (r9, M9)) : Go x9 K 3 (Qf x9 K M0 none M9) 0 [(0, .ref v0), (1, .ref v1)] [] M := by
  have hC := hE.1
  have hnm := hE.2.2.2.2.2.2.2.1
  unfold fX4_spellChanges at h
  refine go_aload_n hC dX4_spellChanges_0 rfl 0 rfl ?_
  obtain ⟨h1, h⟩ := os_1 h
  obtain ⟨b2, h3, h⟩ := os_b h
  refine go_getR 3 hC h1 rfl rfl h3 (C := RX4) (T := TX4) (N := 7) rfl inlX4 (by decide) m_25 (Or.inl rfl) dX4_spellChanges_1 ?_
  refine go_aload_n hC dX4_spellChanges_4 rfl 1 rfl ?_
  obtain ⟨h4, h⟩ := os_1 h
  refine go_getV 7 hC h4 rfl rfl (C := RX3) (T := TX3) (N := 16) rfl inlX3 (by decide) m_347 (Or.inl rfl) dX4_spellChanges_5 ?_
  obtain ⟨h8, h⟩ := os_1 h
  obtain ⟨r5, M6, h7, h⟩ := os_c h
  refine go_callV (bytes := cX0_put) (maxL := 3) (ret := none) (n := 1) (As := [.int (mV M v1 7)]) (st := []) hE (c_X0_put K.2.1 h7) (by unfold okY; decide +kernel) rfl h8 rfl (C := RX0) (T := TX0) (N := 4) rfl m_677 m_674 m_675 m_676 m_24 rfl (by simp [Value.category]) (by decide) (by decide) dX4_spellChanges_8 ?_
  refine go_eq (pc' := 11) (st' := []) (M' := M6) (lv' := [(0, .ref v0), (1, .ref v1)]) ?_ rfl rfl rfl rfl
  refine go_iconst hC dX4_spellChanges_11 (v := (0 : Int32)) (by decide +kernel) ?_
  refine go_istore_n (lv' := [(2, .int (0 : Int32)), (0, .ref v0), (1, .ref v1)]) hC dX4_spellChanges_12 rfl (by decide) rfl ?_
  refine go_sub (lv' := [(0, .ref v0), (1, .ref v1), (2, .int (0 : Int32))]) [1, 2, 0] rfl ?_
  exact tX4_spellChanges_13 hE k9 _ _ _ _ h
theorem c_X4_spellChanges (l : Launch) {x9 : Cx} {k9 : Nat} {M M9 : Mm} {r9 : Unit} {v0 : Nat} {v1 : Nat} (h : fX4_spellChanges x9 k9 v0 v1 M = some (r9, M9)) : Fn l x9 yX4_spellChanges cX4_spellChanges 3 none 1 22 [.ref v0, .ref v1] M none M9 :=
  Fn.of (by decide +kernel) (Nat.le_of_ble_eq_true rfl) rfl (fun K _ hE => tX4_spellChanges_0 hE _ _ _ h)
/-! X4_spellWritten -/
def fX4_spellWritten_48 (x9 : Cx) (k9 : Nat) (rec13 : Nat → Nat → Int32 → Mm → Option (Unit × Mm)) (v0 : Nat) (v1 : Nat) (v2 : Int32) (M : Mm) : Option (Unit × Mm) :=
  rec13 v0 v1 (v2 + 1) M
set_option maxRecDepth 100000 in
set_option maxHeartbeats 4000000 in
theorem tX4_spellWritten_48 {x9 : Cx} {K : Ct} {k9 : Nat} {M0 M9 : Mm} {r9 : Unit} (hE : Ce x9 K RX4 cX4_spellWritten 3 none 3 64 "spellWritten" M0) {rec13 : Nat → Nat → Int32 → Mm → Option (Unit × Mm)} (hrec13 : ∀ (v0 : Nat) (v1 : Nat) (v2 : Int32) (M : Mm), rec13 v0 v1 v2 M = some (r9, M9) → Go x9 K 3 (Qf x9 K M0 none M9) 13 [(0, .ref v0), (1, .ref v1), (2, .int v2)] [] M) (v0 : Nat) (v1 : Nat) (v2 : Int32) (M : Mm) (h : fX4_spellWritten_48 x9 k9 rec13 v0 v1 v2 M = some (r9, M9)) : Go x9 K 3 (Qf x9 K M0 none M9) 48 [(0, .ref v0), (1, .ref v1), (2, .int v2)] [] M := by
  have hC := hE.1
  have hnm := hE.2.2.2.2.2.2.2.1
  unfold fX4_spellWritten_48 at h
  refine go_iinc (q := 2) (v := (v2 + 1)) (lv' := [(2, .int (v2 + 1)), (0, .ref v0), (1, .ref v1)]) hC dX4_spellWritten_48 rfl rfl (by decide) rfl ?_
  refine go_goto (t := 13) hC dX4_spellWritten_51 (by decide) ?_
  refine go_sub (lv' := [(0, .ref v0), (1, .ref v1), (2, .int (v2 + 1))]) [1, 2, 0] rfl ?_
  exact hrec13 _ _ _ _ h
def fX4_spellWritten_13 (x9 : Cx) (k9 : Nat) : Nat → Nat → Nat → Int32 → Mm → Option (Unit × Mm)
  | 0, _, _, _, _ => none
  | n9 + 1, v0, v1, v2, M => if (20 : Int32) ≤ v2 then some ((), M) else if mK M v1 = 4 then ob2 (fX3_wrote x9 k9 v1 v2 M) (fun r2 M3 => if r2 = 0 then fX4_spellWritten_48 x9 k9 (fX4_spellWritten_13 x9 k9 n9) v0 v1 v2 M3 else if mK M3 v0 = 5 then ob1 (mP M3 v0 3) (fun b8 => if mK M3 b8 = 1 then ob2 (fX0_put x9 k9 b8 v2 M3) (fun r10 M11 => if mK M11 v0 = 5 then ob1 (mP M11 v0 3) (fun b15 => if mK M11 v1 = 4 then ob1 (mP M11 v1 6) (fun b18 => if mK M11 b18 = 8 ∧ ¬ (v2 < 0 ∨ mN M11 b18 ≤ (v2).toNatClampNeg) then if mK M11 b15 = 1 then ob2 (fX0_putFour x9 k9 b15 (mV M11 b18 (v2).toNatClampNeg) M11) (fun r21 M22 => fX4_spellWritten_48 x9 k9 (fX4_spellWritten_13 x9 k9 n9) v0 v1 v2 M22) else none else none) else none) else none) else none) else none) else none
set_option maxRecDepth 100000 in
set_option maxHeartbeats 4000000 in
theorem tX4_spellWritten_13 {x9 : Cx} {K : Ct} {k9 : Nat} {M0 M9 : Mm} {r9 : Unit} (hE : Ce x9 K RX4 cX4_spellWritten 3 none 3 64 "spellWritten" M0) : ∀ (n9 : Nat) (v0 : Nat) (v1 : Nat) (v2 : Int32) (M : Mm), fX4_spellWritten_13 x9 k9 n9 v0 v1 v2 M = some (r9, M9) → Go x9 K 3 (Qf x9 K M0 none M9) 13 [(0, .ref v0), (1, .ref v1), (2, .int v2)] [] M := by
  have hC := hE.1
  have hnm := hE.2.2.2.2.2.2.2.1
  intro n9
  induction n9 with
  | zero => intro _ _ _ _ h; cases h
  | succ n9 ih =>
    intro v0 v1 v2 M h
    rw [fX4_spellWritten_13] at h
    refine go_iload_n hC dX4_spellWritten_13 rfl 2 rfl ?_
    refine go_bipush hC dX4_spellWritten_14 (v := (20 : Int32)) (by decide +kernel) ?_
    refine go_icmp_ge (t := 54) hC dX4_spellWritten_16 (by decide) (fun c1 => ?_) (fun c1 => ?_)
    · have h := os_t h c1
      cases h
      exact go_vret hE dX4_spellWritten_54
    · have h := os_f h c1
      refine go_aload_n hC dX4_spellWritten_19 rfl 1 rfl ?_
      refine go_iload_n hC dX4_spellWritten_20 rfl 2 rfl ?_
      obtain ⟨h5, h⟩ := os_1 h
      obtain ⟨r2, M3, h4, h⟩ := os_c h
      refine go_callV (bytes := cX3_wrote) (maxL := 2) (ret := (some .boolean)) (n := 1) (As := [.int v2]) (st := []) hE (c_X3_wrote K.2.1 h4) (by unfold okY; decide +kernel) rfl h5 rfl (C := RX3) (T := TX3) (N := 16) rfl m_281 m_278 m_279 m_280 m_144 rfl (by simp [Value.category]) (by decide) (by decide) dX4_spellWritten_21 ?_
      refine go_eq (pc' := 24) (st' := [.int r2]) (M' := M3) (lv' := [(0, .ref v0), (1, .ref v1), (2, .int v2)]) ?_ rfl rfl rfl rfl
      refine go_if_eq (t := 48) hC dX4_spellWritten_24 (by decide) (fun c6 => ?_) (fun c6 => ?_)
      · have h := os_t h c6
        exact tX4_spellWritten_48 hE ih _ _ _ _ h
      · have h := os_f h c6
        refine go_aload_n hC dX4_spellWritten_27 rfl 0 rfl ?_
        obtain ⟨h7, h⟩ := os_1 h
        obtain ⟨b8, h9, h⟩ := os_b h
        refine go_getR 3 hC h7 rfl rfl h9 (C := RX4) (T := TX4) (N := 7) rfl inlX4 (by decide) m_25 (Or.inl rfl) dX4_spellWritten_28 ?_
        refine go_iload_n hC dX4_spellWritten_31 rfl 2 rfl ?_
        obtain ⟨h13, h⟩ := os_1 h
        obtain ⟨r10, M11, h12, h⟩ := os_c h
        refine go_callV (bytes := cX0_put) (maxL := 3) (ret := none) (n := 1) (As := [.int v2]) (st := []) hE (c_X0_put K.2.1 h12) (by unfold okY; decide +kernel) rfl h13 rfl (C := RX0) (T := TX0) (N := 4) rfl m_677 m_674 m_675 m_676 m_24 rfl (by simp [Value.category]) (by decide) (by decide) dX4_spellWritten_32 ?_
        refine go_eq (pc' := 35) (st' := []) (M' := M11) (lv' := [(0, .ref v0), (1, .ref v1), (2, .int v2)]) ?_ rfl rfl rfl rfl
        refine go_aload_n hC dX4_spellWritten_35 rfl 0 rfl ?_
        obtain ⟨h14, h⟩ := os_1 h
        obtain ⟨b15, h16, h⟩ := os_b h
        refine go_getR 3 hC h14 rfl rfl h16 (C := RX4) (T := TX4) (N := 7) rfl inlX4 (by decide) m_25 (Or.inl rfl) dX4_spellWritten_36 ?_
        refine go_aload_n hC dX4_spellWritten_39 rfl 1 rfl ?_
        obtain ⟨h17, h⟩ := os_1 h
        obtain ⟨b18, h19, h⟩ := os_b h
        refine go_getR 6 hC h17 rfl rfl h19 (C := RX3) (T := TX3) (N := 16) rfl inlX3 (by decide) m_264 (Or.inl rfl) dX4_spellWritten_40 ?_
        refine go_iload_n hC dX4_spellWritten_43 rfl 2 rfl ?_
        obtain ⟨h20, h⟩ := os_1 h
        refine go_iald hC h20.1 h20.2 dX4_spellWritten_44 ?_
        obtain ⟨h24, h⟩ := os_1 h
        obtain ⟨r21, M22, h23, h⟩ := os_c h
        refine go_callV (bytes := cX0_putFour) (maxL := 2) (ret := none) (n := 1) (As := [.int (mV M11 b18 (v2).toNatClampNeg)]) (st := []) hE (c_X0_putFour K.2.1 h23) (by unfold okY; decide +kernel) rfl h24 rfl (C := RX0) (T := TX0) (N := 4) rfl m_699 m_696 m_697 m_698 m_24 rfl (by simp [Value.category]) (by decide) (by decide) dX4_spellWritten_45 ?_
        refine go_eq (pc' := 48) (st' := []) (M' := M22) (lv' := [(0, .ref v0), (1, .ref v1), (2, .int v2)]) ?_ rfl rfl rfl rfl
        exact tX4_spellWritten_48 hE ih _ _ _ _ h
def fX4_spellWritten (x9 : Cx) (k9 : Nat) (v0 : Nat) (v1 : Nat) (M : Mm) : Option (Unit × Mm) :=
  if mK M v0 = 5 then ob1 (mP M v0 3) (fun b2 => if mK M v1 = 4 then ob2 (fX3_writtenCount x9 k9 v1 M) (fun r4 M5 => if mK M5 b2 = 1 then ob2 (fX0_put x9 k9 b2 r4 M5) (fun r8 M9 => fX4_spellWritten_13 x9 k9 k9 v0 v1 (0 : Int32) M9) else none) else none) else none
set_option maxRecDepth 100000 in
set_option maxHeartbeats 4000000 in
theorem tX4_spellWritten_0 {x9 : Cx} {K : Ct} {k9 : Nat} {M0 M9 : Mm} {r9 : Unit} (hE : Ce x9 K RX4 cX4_spellWritten 3 none 3 64 "spellWritten" M0) (v0 : Nat) (v1 : Nat) (M : Mm) (h : fX4_spellWritten x9 k9 v0 v1 M = some (r9, M9)) : Go x9 K 3 (Qf x9 K M0 none M9) 0 [(0, .ref v0), (1, .ref v1)] [] M := by
  have hC := hE.1
  have hnm := hE.2.2.2.2.2.2.2.1
  unfold fX4_spellWritten at h
  refine go_aload_n hC dX4_spellWritten_0 rfl 0 rfl ?_
  obtain ⟨h1, h⟩ := os_1 h
  obtain ⟨b2, h3, h⟩ := os_b h
  refine go_getR 3 hC h1 rfl rfl h3 (C := RX4) (T := TX4) (N := 7) rfl inlX4 (by decide) m_25 (Or.inl rfl) dX4_spellWritten_1 ?_
  refine go_aload_n hC dX4_spellWritten_4 rfl 1 rfl ?_
  obtain ⟨h7, h⟩ := os_1 h
  obtain ⟨r4, M5, h6, h⟩ := os_c h
  refine go_callV (bytes := cX3_writtenCount) (maxL := 1) (ret := (some .int)) (n := 0) (As := []) (st := [.ref b2]) hE (c_X3_writtenCount K.2.1 h6) (by unfold okY; decide +kernel) rfl h7 rfl (C := RX3) (T := TX3) (N := 16) rfl m_324 m_321 m_322 m_323 m_144 rfl (by simp [Value.category]) (by decide) (by decide) dX4_spellWritten_5 ?_
  refine go_eq (pc' := 8) (st' := [.int r4, .ref b2]) (M' := M5) (lv' := [(0, .ref v0), (1, .ref v1)]) ?_ rfl rfl rfl rfl
  obtain ⟨h11, h⟩ := os_1 h
  obtain ⟨r8, M9, h10, h⟩ := os_c h
  refine go_callV (bytes := cX0_put) (maxL := 3) (ret := none) (n := 1) (As := [.int r4]) (st := []) hE (c_X0_put K.2.1 h10) (by unfold okY; decide +kernel) rfl h11 rfl (C := RX0) (T := TX0) (N := 4) rfl m_677 m_674 m_675 m_676 m_24 rfl (by simp [Value.category]) (by decide) (by decide) dX4_spellWritten_8 ?_
  refine go_eq (pc' := 11) (st' := []) (M' := M9) (lv' := [(0, .ref v0), (1, .ref v1)]) ?_ rfl rfl rfl rfl
  refine go_iconst hC dX4_spellWritten_11 (v := (0 : Int32)) (by decide +kernel) ?_
  refine go_istore_n (lv' := [(2, .int (0 : Int32)), (0, .ref v0), (1, .ref v1)]) hC dX4_spellWritten_12 rfl (by decide) rfl ?_
  refine go_sub (lv' := [(0, .ref v0), (1, .ref v1), (2, .int (0 : Int32))]) [1, 2, 0] rfl ?_
  exact tX4_spellWritten_13 hE k9 _ _ _ _ h
theorem c_X4_spellWritten (l : Launch) {x9 : Cx} {k9 : Nat} {M M9 : Mm} {r9 : Unit} {v0 : Nat} {v1 : Nat} (h : fX4_spellWritten x9 k9 v0 v1 M = some (r9, M9)) : Fn l x9 yX4_spellWritten cX4_spellWritten 3 none 3 64 [.ref v0, .ref v1] M none M9 :=
  Fn.of (by decide +kernel) (Nat.le_of_ble_eq_true rfl) rfl (fun K _ hE => tX4_spellWritten_0 hE _ _ _ h)
/-! X4_spell -/
def fX4_spell_103 (x9 : Cx) (k9 : Nat) (v0 : Nat) (M : Mm) : Option (Unit × Mm) :=
  if mK M v0 = 5 then ob1 (mP M v0 3) (fun b2 => if mK M b2 = 1 then ob2 (fX0_putCheck x9 k9 b2 M) (fun r4 M5 => some ((), M5)) else none) else none
set_option maxRecDepth 100000 in
set_option maxHeartbeats 4000000 in
theorem tX4_spell_103 {x9 : Cx} {K : Ct} {k9 : Nat} {M0 M9 : Mm} {r9 : Unit} (hE : Ce x9 K RX4 cX4_spell 3 none 4 89 "spell" M0) (v0 : Nat) (M : Mm) (h : fX4_spell_103 x9 k9 v0 M = some (r9, M9)) : Go x9 K 3 (Qf x9 K M0 none M9) 103 [(0, .ref v0)] [] M := by
  have hC := hE.1
  have hnm := hE.2.2.2.2.2.2.2.1
  unfold fX4_spell_103 at h
  refine go_aload_n hC dX4_spell_103 rfl 0 rfl ?_
  obtain ⟨h1, h⟩ := os_1 h
  obtain ⟨b2, h3, h⟩ := os_b h
  refine go_getR 3 hC h1 rfl rfl h3 (C := RX4) (T := TX4) (N := 7) rfl inlX4 (by decide) m_25 (Or.inl rfl) dX4_spell_104 ?_
  obtain ⟨h7, h⟩ := os_1 h
  obtain ⟨r4, M5, h6, h⟩ := os_c h
  refine go_callV (bytes := cX0_putCheck) (maxL := 1) (ret := none) (n := 0) (As := []) (st := []) hE (c_X0_putCheck K.2.1 h6) (by unfold okY; decide +kernel) rfl h7 rfl (C := RX0) (T := TX0) (N := 4) rfl m_708 m_705 m_706 m_707 m_24 rfl (by simp [Value.category]) (by decide) (by decide) dX4_spell_107 ?_
  refine go_eq (pc' := 110) (st' := []) (M' := M5) (lv' := [(0, .ref v0)]) ?_ rfl rfl rfl rfl
  cases h
  exact go_vret hE dX4_spell_110
def fX4_spell (x9 : Cx) (k9 : Nat) (v0 : Nat) (v1 : Nat) (v2 : Nat) (M : Mm) : Option (Unit × Mm) :=
  if mK M v0 = 5 then ob1 (mP M v0 3) (fun b2 => if mK M v1 = 2 then ob2 (fX1_kind x9 k9 v1 M) (fun r4 M5 => if mK M5 b2 = 1 then ob2 (fX0_put x9 k9 b2 r4 M5) (fun r8 M9 => if mK M9 v0 = 5 then ob1 (mP M9 v0 3) (fun b13 => if mK M9 v1 = 2 then ob2 (fX1_from x9 k9 v1 M9) (fun r15 M16 => if mK M16 b13 = 1 then ob2 (fX0_put x9 k9 b13 r15 M16) (fun r19 M20 => if mK M20 v0 = 5 then ob1 (mP M20 v0 3) (fun b24 => if mK M20 v1 = 2 then ob2 (fX1_to x9 k9 v1 M20) (fun r26 M27 => if mK M27 b24 = 1 then ob2 (fX0_put x9 k9 b24 r26 M27) (fun r30 M31 => if mK M31 v0 = 5 then ob1 (mP M31 v0 3) (fun b35 => if mK M31 v2 = 4 then if mK M31 b35 = 1 then ob2 (fX0_putTwo x9 k9 b35 (mV M31 v2 0) M31) (fun r38 M39 => if mK M39 v1 = 2 then ob2 (fX1_kind x9 k9 v1 M39) (fun r42 M43 => if r42 = (1 : Int32) then if mK M43 v0 = 5 then ob2 (fX4_spellStart x9 k9 v0 v2 M43) (fun r72 M73 => if mK M73 v1 = 2 then ob2 (fX1_to x9 k9 v1 M73) (fun r76 M77 => if mK M77 v0 = 5 then ob2 (fX4_spellAsked x9 k9 v0 v2 r76 M77) (fun r80 M81 => fX4_spell_103 x9 k9 v0 M81) else none) else none) else none else if mK M43 v1 = 2 then ob2 (fX1_kind x9 k9 v1 M43) (fun r47 M48 => if r47 = (5 : Int32) then if mK M48 v0 = 5 then ob2 (fX4_spellStart x9 k9 v0 v2 M48) (fun r52 M53 => if mK M53 v0 = 5 then ob1 (mP M53 v0 3) (fun b57 => if mK M53 v2 = 4 then if mK M53 b57 = 1 then ob2 (fX0_putTwo x9 k9 b57 (mV M53 v2 3) M53) (fun r60 M61 => if mK M61 v0 = 5 then ob2 (fX4_spellWritten x9 k9 v0 v2 M61) (fun r64 M65 => if mK M65 v0 = 5 then ob2 (fX4_spellChanges x9 k9 v0 v2 M65) (fun r68 M69 => fX4_spell_103 x9 k9 v0 M69) else none) else none) else none else none) else none) else none else fX4_spell_103 x9 k9 v0 M48) else none) else none) else none else none) else none) else none) else none) else none) else none) else none) else none) else none) else none) else none
set_option maxRecDepth 100000 in
set_option maxHeartbeats 4000000 in
theorem tX4_spell_0 {x9 : Cx} {K : Ct} {k9 : Nat} {M0 M9 : Mm} {r9 : Unit} (hE : Ce x9 K RX4 cX4_spell 3 none 4 89 "spell" M0) (v0 : Nat) (v1 : Nat) (v2 : Nat) (M : Mm) (h : fX4_spell x9 k9 v0 v1 v2 M = some (r9, M9)) : Go x9 K 3 (Qf x9 K M0 none M9) 0 [(0, .ref v0), (1, .ref v1), (2, .ref v2)] [] M := by
  have hC := hE.1
  have hnm := hE.2.2.2.2.2.2.2.1
  unfold fX4_spell at h
  refine go_aload_n hC dX4_spell_0 rfl 0 rfl ?_
  obtain ⟨h1, h⟩ := os_1 h
  obtain ⟨b2, h3, h⟩ := os_b h
  refine go_getR 3 hC h1 rfl rfl h3 (C := RX4) (T := TX4) (N := 7) rfl inlX4 (by decide) m_25 (Or.inl rfl) dX4_spell_1 ?_
  refine go_aload_n hC dX4_spell_4 rfl 1 rfl ?_
  obtain ⟨h7, h⟩ := os_1 h
  obtain ⟨r4, M5, h6, h⟩ := os_c h
  refine go_callV (bytes := cX1_kind) (maxL := 1) (ret := (some .int)) (n := 0) (As := []) (st := [.ref b2]) hE (c_X1_kind K.2.1 h6) (by unfold okY; decide +kernel) rfl h7 rfl (C := RX1) (T := TX1) (N := 4) rfl m_567 m_564 m_565 m_566 m_450 rfl (by simp [Value.category]) (by decide) (by decide) dX4_spell_5 ?_
  refine go_eq (pc' := 8) (st' := [.int r4, .ref b2]) (M' := M5) (lv' := [(0, .ref v0), (1, .ref v1), (2, .ref v2)]) ?_ rfl rfl rfl rfl
  obtain ⟨h11, h⟩ := os_1 h
  obtain ⟨r8, M9, h10, h⟩ := os_c h
  refine go_callV (bytes := cX0_put) (maxL := 3) (ret := none) (n := 1) (As := [.int r4]) (st := []) hE (c_X0_put K.2.1 h10) (by unfold okY; decide +kernel) rfl h11 rfl (C := RX0) (T := TX0) (N := 4) rfl m_677 m_674 m_675 m_676 m_24 rfl (by simp [Value.category]) (by decide) (by decide) dX4_spell_8 ?_
  refine go_eq (pc' := 11) (st' := []) (M' := M9) (lv' := [(0, .ref v0), (1, .ref v1), (2, .ref v2)]) ?_ rfl rfl rfl rfl
  refine go_aload_n hC dX4_spell_11 rfl 0 rfl ?_
  obtain ⟨h12, h⟩ := os_1 h
  obtain ⟨b13, h14, h⟩ := os_b h
  refine go_getR 3 hC h12 rfl rfl h14 (C := RX4) (T := TX4) (N := 7) rfl inlX4 (by decide) m_25 (Or.inl rfl) dX4_spell_12 ?_
  refine go_aload_n hC dX4_spell_15 rfl 1 rfl ?_
  obtain ⟨h18, h⟩ := os_1 h
  obtain ⟨r15, M16, h17, h⟩ := os_c h
  refine go_callV (bytes := cX1_from) (maxL := 1) (ret := (some .int)) (n := 0) (As := []) (st := [.ref b13]) hE (c_X1_from K.2.1 h17) (by unfold okY; decide +kernel) rfl h18 rfl (C := RX1) (T := TX1) (N := 4) rfl m_576 m_573 m_574 m_575 m_450 rfl (by simp [Value.category]) (by decide) (by decide) dX4_spell_16 ?_
  refine go_eq (pc' := 19) (st' := [.int r15, .ref b13]) (M' := M16) (lv' := [(0, .ref v0), (1, .ref v1), (2, .ref v2)]) ?_ rfl rfl rfl rfl
  obtain ⟨h22, h⟩ := os_1 h
  obtain ⟨r19, M20, h21, h⟩ := os_c h
  refine go_callV (bytes := cX0_put) (maxL := 3) (ret := none) (n := 1) (As := [.int r15]) (st := []) hE (c_X0_put K.2.1 h21) (by unfold okY; decide +kernel) rfl h22 rfl (C := RX0) (T := TX0) (N := 4) rfl m_677 m_674 m_675 m_676 m_24 rfl (by simp [Value.category]) (by decide) (by decide) dX4_spell_19 ?_
  refine go_eq (pc' := 22) (st' := []) (M' := M20) (lv' := [(0, .ref v0), (1, .ref v1), (2, .ref v2)]) ?_ rfl rfl rfl rfl
  refine go_aload_n hC dX4_spell_22 rfl 0 rfl ?_
  obtain ⟨h23, h⟩ := os_1 h
  obtain ⟨b24, h25, h⟩ := os_b h
  refine go_getR 3 hC h23 rfl rfl h25 (C := RX4) (T := TX4) (N := 7) rfl inlX4 (by decide) m_25 (Or.inl rfl) dX4_spell_23 ?_
  refine go_aload_n hC dX4_spell_26 rfl 1 rfl ?_
  obtain ⟨h29, h⟩ := os_1 h
  obtain ⟨r26, M27, h28, h⟩ := os_c h
  refine go_callV (bytes := cX1_to) (maxL := 1) (ret := (some .int)) (n := 0) (As := []) (st := [.ref b24]) hE (c_X1_to K.2.1 h28) (by unfold okY; decide +kernel) rfl h29 rfl (C := RX1) (T := TX1) (N := 4) rfl m_555 m_552 m_553 m_554 m_450 rfl (by simp [Value.category]) (by decide) (by decide) dX4_spell_27 ?_
  refine go_eq (pc' := 30) (st' := [.int r26, .ref b24]) (M' := M27) (lv' := [(0, .ref v0), (1, .ref v1), (2, .ref v2)]) ?_ rfl rfl rfl rfl
  obtain ⟨h33, h⟩ := os_1 h
  obtain ⟨r30, M31, h32, h⟩ := os_c h
  refine go_callV (bytes := cX0_put) (maxL := 3) (ret := none) (n := 1) (As := [.int r26]) (st := []) hE (c_X0_put K.2.1 h32) (by unfold okY; decide +kernel) rfl h33 rfl (C := RX0) (T := TX0) (N := 4) rfl m_677 m_674 m_675 m_676 m_24 rfl (by simp [Value.category]) (by decide) (by decide) dX4_spell_30 ?_
  refine go_eq (pc' := 33) (st' := []) (M' := M31) (lv' := [(0, .ref v0), (1, .ref v1), (2, .ref v2)]) ?_ rfl rfl rfl rfl
  refine go_aload_n hC dX4_spell_33 rfl 0 rfl ?_
  obtain ⟨h34, h⟩ := os_1 h
  obtain ⟨b35, h36, h⟩ := os_b h
  refine go_getR 3 hC h34 rfl rfl h36 (C := RX4) (T := TX4) (N := 7) rfl inlX4 (by decide) m_25 (Or.inl rfl) dX4_spell_34 ?_
  refine go_aload_n hC dX4_spell_37 rfl 2 rfl ?_
  obtain ⟨h37, h⟩ := os_1 h
  refine go_getV 0 hC h37 rfl rfl (C := RX3) (T := TX3) (N := 16) rfl inlX3 (by decide) m_413 (Or.inl rfl) dX4_spell_38 ?_
  obtain ⟨h41, h⟩ := os_1 h
  obtain ⟨r38, M39, h40, h⟩ := os_c h
  refine go_callV (bytes := cX0_putTwo) (maxL := 2) (ret := none) (n := 1) (As := [.int (mV M31 v2 0)]) (st := []) hE (c_X0_putTwo K.2.1 h40) (by unfold okY; decide +kernel) rfl h41 rfl (C := RX0) (T := TX0) (N := 4) rfl m_682 m_679 m_680 m_681 m_24 rfl (by simp [Value.category]) (by decide) (by decide) dX4_spell_41 ?_
  refine go_eq (pc' := 44) (st' := []) (M' := M39) (lv' := [(0, .ref v0), (1, .ref v1), (2, .ref v2)]) ?_ rfl rfl rfl rfl
  refine go_aload_n hC dX4_spell_44 rfl 1 rfl ?_
  obtain ⟨h45, h⟩ := os_1 h
  obtain ⟨r42, M43, h44, h⟩ := os_c h
  refine go_callV (bytes := cX1_kind) (maxL := 1) (ret := (some .int)) (n := 0) (As := []) (st := []) hE (c_X1_kind K.2.1 h44) (by unfold okY; decide +kernel) rfl h45 rfl (C := RX1) (T := TX1) (N := 4) rfl m_567 m_564 m_565 m_566 m_450 rfl (by simp [Value.category]) (by decide) (by decide) dX4_spell_45 ?_
  refine go_eq (pc' := 48) (st' := [.int r42]) (M' := M43) (lv' := [(0, .ref v0), (1, .ref v1), (2, .ref v2)]) ?_ rfl rfl rfl rfl
  refine go_iconst hC dX4_spell_48 (v := (1 : Int32)) (by decide +kernel) ?_
  refine go_icmp_ne (t := 69) hC dX4_spell_49 (by decide) (fun c46 => ?_) (fun c46 => ?_)
  · have h := os_f h c46
    refine go_aload_n hC dX4_spell_69 rfl 1 rfl ?_
    obtain ⟨h50, h⟩ := os_1 h
    obtain ⟨r47, M48, h49, h⟩ := os_c h
    refine go_callV (bytes := cX1_kind) (maxL := 1) (ret := (some .int)) (n := 0) (As := []) (st := []) hE (c_X1_kind K.2.1 h49) (by unfold okY; decide +kernel) rfl h50 rfl (C := RX1) (T := TX1) (N := 4) rfl m_567 m_564 m_565 m_566 m_450 rfl (by simp [Value.category]) (by decide) (by decide) dX4_spell_70 ?_
    refine go_eq (pc' := 73) (st' := [.int r47]) (M' := M48) (lv' := [(0, .ref v0), (1, .ref v1), (2, .ref v2)]) ?_ rfl rfl rfl rfl
    refine go_iconst hC dX4_spell_73 (v := (5 : Int32)) (by decide +kernel) ?_
    refine go_icmp_ne (t := 103) hC dX4_spell_74 (by decide) (fun c51 => ?_) (fun c51 => ?_)
    · have h := os_f h c51
      refine go_sub (lv' := [(0, .ref v0)]) [0] rfl ?_
      exact tX4_spell_103 hE _ _ h
    · have h := os_t h c51
      refine go_aload_n hC dX4_spell_77 rfl 0 rfl ?_
      refine go_aload_n hC dX4_spell_78 rfl 2 rfl ?_
      obtain ⟨h55, h⟩ := os_1 h
      obtain ⟨r52, M53, h54, h⟩ := os_c h
      refine go_callV (bytes := cX4_spellStart) (maxL := 3) (ret := none) (n := 1) (As := [.ref v2]) (st := []) hE (c_X4_spellStart K.2.1 h54) (by unfold okY; decide +kernel) rfl h55 rfl (C := RX4) (T := TX4) (N := 7) rfl m_687 m_684 m_685 m_686 m_2 rfl (by simp [Value.category]) (by decide) (by decide) dX4_spell_79 ?_
      refine go_eq (pc' := 82) (st' := []) (M' := M53) (lv' := [(0, .ref v0), (1, .ref v1), (2, .ref v2)]) ?_ rfl rfl rfl rfl
      refine go_aload_n hC dX4_spell_82 rfl 0 rfl ?_
      obtain ⟨h56, h⟩ := os_1 h
      obtain ⟨b57, h58, h⟩ := os_b h
      refine go_getR 3 hC h56 rfl rfl h58 (C := RX4) (T := TX4) (N := 7) rfl inlX4 (by decide) m_25 (Or.inl rfl) dX4_spell_83 ?_
      refine go_aload_n hC dX4_spell_86 rfl 2 rfl ?_
      obtain ⟨h59, h⟩ := os_1 h
      refine go_getV 3 hC h59 rfl rfl (C := RX3) (T := TX3) (N := 16) rfl inlX3 (by decide) m_418 (Or.inl rfl) dX4_spell_87 ?_
      obtain ⟨h63, h⟩ := os_1 h
      obtain ⟨r60, M61, h62, h⟩ := os_c h
      refine go_callV (bytes := cX0_putTwo) (maxL := 2) (ret := none) (n := 1) (As := [.int (mV M53 v2 3)]) (st := []) hE (c_X0_putTwo K.2.1 h62) (by unfold okY; decide +kernel) rfl h63 rfl (C := RX0) (T := TX0) (N := 4) rfl m_682 m_679 m_680 m_681 m_24 rfl (by simp [Value.category]) (by decide) (by decide) dX4_spell_90 ?_
      refine go_eq (pc' := 93) (st' := []) (M' := M61) (lv' := [(0, .ref v0), (1, .ref v1), (2, .ref v2)]) ?_ rfl rfl rfl rfl
      refine go_aload_n hC dX4_spell_93 rfl 0 rfl ?_
      refine go_aload_n hC dX4_spell_94 rfl 2 rfl ?_
      obtain ⟨h67, h⟩ := os_1 h
      obtain ⟨r64, M65, h66, h⟩ := os_c h
      refine go_callV (bytes := cX4_spellWritten) (maxL := 3) (ret := none) (n := 1) (As := [.ref v2]) (st := []) hE (c_X4_spellWritten K.2.1 h66) (by unfold okY; decide +kernel) rfl h67 rfl (C := RX4) (T := TX4) (N := 7) rfl m_695 m_692 m_693 m_694 m_2 rfl (by simp [Value.category]) (by decide) (by decide) dX4_spell_95 ?_
      refine go_eq (pc' := 98) (st' := []) (M' := M65) (lv' := [(0, .ref v0), (1, .ref v1), (2, .ref v2)]) ?_ rfl rfl rfl rfl
      refine go_aload_n hC dX4_spell_98 rfl 0 rfl ?_
      refine go_aload_n hC dX4_spell_99 rfl 2 rfl ?_
      obtain ⟨h71, h⟩ := os_1 h
      obtain ⟨r68, M69, h70, h⟩ := os_c h
      refine go_callV (bytes := cX4_spellChanges) (maxL := 3) (ret := none) (n := 1) (As := [.ref v2]) (st := []) hE (c_X4_spellChanges K.2.1 h70) (by unfold okY; decide +kernel) rfl h71 rfl (C := RX4) (T := TX4) (N := 7) rfl m_704 m_701 m_702 m_703 m_2 rfl (by simp [Value.category]) (by decide) (by decide) dX4_spell_100 ?_
      refine go_eq (pc' := 103) (st' := []) (M' := M69) (lv' := [(0, .ref v0), (1, .ref v1), (2, .ref v2)]) ?_ rfl rfl rfl rfl
      refine go_sub (lv' := [(0, .ref v0)]) [0] rfl ?_
      exact tX4_spell_103 hE _ _ h
  · have h := os_t h c46
    refine go_aload_n hC dX4_spell_52 rfl 0 rfl ?_
    refine go_aload_n hC dX4_spell_53 rfl 2 rfl ?_
    obtain ⟨h75, h⟩ := os_1 h
    obtain ⟨r72, M73, h74, h⟩ := os_c h
    refine go_callV (bytes := cX4_spellStart) (maxL := 3) (ret := none) (n := 1) (As := [.ref v2]) (st := []) hE (c_X4_spellStart K.2.1 h74) (by unfold okY; decide +kernel) rfl h75 rfl (C := RX4) (T := TX4) (N := 7) rfl m_687 m_684 m_685 m_686 m_2 rfl (by simp [Value.category]) (by decide) (by decide) dX4_spell_54 ?_
    refine go_eq (pc' := 57) (st' := []) (M' := M73) (lv' := [(0, .ref v0), (1, .ref v1), (2, .ref v2)]) ?_ rfl rfl rfl rfl
    refine go_aload_n hC dX4_spell_57 rfl 0 rfl ?_
    refine go_aload_n hC dX4_spell_58 rfl 2 rfl ?_
    refine go_aload_n hC dX4_spell_59 rfl 1 rfl ?_
    obtain ⟨h79, h⟩ := os_1 h
    obtain ⟨r76, M77, h78, h⟩ := os_c h
    refine go_callV (bytes := cX1_to) (maxL := 1) (ret := (some .int)) (n := 0) (As := []) (st := [.ref v2, .ref v0]) hE (c_X1_to K.2.1 h78) (by unfold okY; decide +kernel) rfl h79 rfl (C := RX1) (T := TX1) (N := 4) rfl m_555 m_552 m_553 m_554 m_450 rfl (by simp [Value.category]) (by decide) (by decide) dX4_spell_60 ?_
    refine go_eq (pc' := 63) (st' := [.int r76, .ref v2, .ref v0]) (M' := M77) (lv' := [(0, .ref v0), (1, .ref v1), (2, .ref v2)]) ?_ rfl rfl rfl rfl
    obtain ⟨h83, h⟩ := os_1 h
    obtain ⟨r80, M81, h82, h⟩ := os_c h
    refine go_callV (bytes := cX4_spellAsked) (maxL := 5) (ret := none) (n := 2) (As := [.ref v2, .int r76]) (st := []) hE (c_X4_spellAsked K.2.1 h82) (by unfold okY; decide +kernel) rfl h83 rfl (C := RX4) (T := TX4) (N := 7) rfl m_691 m_688 m_689 m_690 m_2 rfl (by simp [Value.category]) (by decide) (by decide) dX4_spell_63 ?_
    refine go_eq (pc' := 66) (st' := []) (M' := M81) (lv' := [(0, .ref v0), (1, .ref v1), (2, .ref v2)]) ?_ rfl rfl rfl rfl
    refine go_goto (t := 103) hC dX4_spell_66 (by decide) ?_
    refine go_sub (lv' := [(0, .ref v0)]) [0] rfl ?_
    exact tX4_spell_103 hE _ _ h
theorem c_X4_spell (l : Launch) {x9 : Cx} {k9 : Nat} {M M9 : Mm} {r9 : Unit} {v0 : Nat} {v1 : Nat} {v2 : Nat} (h : fX4_spell x9 k9 v0 v1 v2 M = some (r9, M9)) : Fn l x9 yX4_spell cX4_spell 3 none 4 89 [.ref v0, .ref v1, .ref v2] M none M9 :=
  Fn.of (by decide +kernel) (Nat.le_of_ble_eq_true rfl) rfl (fun K _ hE => tX4_spell_0 hE _ _ _ _ h)
/-! X4_latestSeen -/
def fX4_latestSeen_58 (x9 : Cx) (k9 : Nat) (rec8 : Nat → Nat → Nat → Int32 → Int32 → Mm → Option (Int32 × Mm)) (v0 : Nat) (v1 : Nat) (v2 : Nat) (v3 : Int32) (v4 : Int32) (M : Mm) : Option (Int32 × Mm) :=
  rec8 v0 v1 v2 v3 (v4 + (-1)) M
set_option maxRecDepth 100000 in
set_option maxHeartbeats 4000000 in
theorem tX4_latestSeen_58 {x9 : Cx} {K : Ct} {k9 : Nat} {M0 M9 : Mm} {r9 : Int32} (hE : Ce x9 K RX4 cX4_latestSeen 6 (some .int) 3 64 "latestSeen" M0) {rec8 : Nat → Nat → Nat → Int32 → Int32 → Mm → Option (Int32 × Mm)} (hrec8 : ∀ (v0 : Nat) (v1 : Nat) (v2 : Nat) (v3 : Int32) (v4 : Int32) (M : Mm), rec8 v0 v1 v2 v3 v4 M = some (r9, M9) → Go x9 K 6 (Qf x9 K M0 (some (.int r9)) M9) 8 [(0, .ref v0), (1, .ref v1), (2, .ref v2), (3, .int v3), (4, .int v4)] [] M) (v0 : Nat) (v1 : Nat) (v2 : Nat) (v3 : Int32) (v4 : Int32) (M : Mm) (h : fX4_latestSeen_58 x9 k9 rec8 v0 v1 v2 v3 v4 M = some (r9, M9)) : Go x9 K 6 (Qf x9 K M0 (some (.int r9)) M9) 58 [(0, .ref v0), (1, .ref v1), (2, .ref v2), (3, .int v3), (4, .int v4)] [] M := by
  have hC := hE.1
  have hnm := hE.2.2.2.2.2.2.2.1
  unfold fX4_latestSeen_58 at h
  refine go_iinc (q := 4) (v := (v4 + (-1))) (lv' := [(4, .int (v4 + (-1))), (0, .ref v0), (1, .ref v1), (2, .ref v2), (3, .int v3)]) hC dX4_latestSeen_58 rfl rfl (by decide) rfl ?_
  refine go_goto (t := 8) hC dX4_latestSeen_61 (by decide) ?_
  refine go_sub (lv' := [(0, .ref v0), (1, .ref v1), (2, .ref v2), (3, .int v3), (4, .int (v4 + (-1)))]) [1, 2, 3, 4, 0] rfl ?_
  exact hrec8 _ _ _ _ _ _ h
def fX4_latestSeen_8 (x9 : Cx) (k9 : Nat) : Nat → Nat → Nat → Nat → Int32 → Int32 → Mm → Option (Int32 × Mm)
  | 0, _, _, _, _, _, _ => none
  | n9 + 1, v0, v1, v2, v3, v4, M => if v4 < 0 then some ((0 : Int32), M) else if mK M v0 = 5 then ob1 (mP M v0 1) (fun b3 => if mK M v1 = 3 then ob1 (mP M v1 3) (fun b6 => if mK M b6 = 8 ∧ ¬ (v4 < 0 ∨ mN M b6 ≤ (v4).toNatClampNeg) then if mK M b3 = 7 then ob2 (fJx4a65c_get_915e3 x9 k9 b3 (mV M b6 (v4).toNatClampNeg) M) (fun r9 M10 => if mK M10 r9 = 4 then if mK M10 r9 = 4 then ob2 (fX3_wrote x9 k9 r9 v3 M10) (fun r14 M15 => if r14 = 0 then fX4_latestSeen_58 x9 k9 (fX4_latestSeen_8 x9 k9 n9) v0 v1 v2 v3 v4 M15 else if mK M15 r9 = 4 then ob2 (fX3_isSeenFrom x9 k9 r9 v2 M15) (fun r19 M20 => if r19 = 0 then fX4_latestSeen_58 x9 k9 (fX4_latestSeen_8 x9 k9 n9) v0 v1 v2 v3 v4 M20 else if mK M20 r9 = 4 then ob1 (mP M20 r9 6) (fun b25 => if mK M20 b25 = 8 ∧ ¬ (v3 < 0 ∨ mN M20 b25 ≤ (v3).toNatClampNeg) then some ((mV M20 b25 (v3).toNatClampNeg), M20) else none) else none) else none) else none else none) else none else none) else none) else none
set_option maxRecDepth 100000 in
set_option maxHeartbeats 4000000 in
theorem tX4_latestSeen_8 {x9 : Cx} {K : Ct} {k9 : Nat} {M0 M9 : Mm} {r9 : Int32} (hE : Ce x9 K RX4 cX4_latestSeen 6 (some .int) 3 64 "latestSeen" M0) : ∀ (n9 : Nat) (v0 : Nat) (v1 : Nat) (v2 : Nat) (v3 : Int32) (v4 : Int32) (M : Mm), fX4_latestSeen_8 x9 k9 n9 v0 v1 v2 v3 v4 M = some (r9, M9) → Go x9 K 6 (Qf x9 K M0 (some (.int r9)) M9) 8 [(0, .ref v0), (1, .ref v1), (2, .ref v2), (3, .int v3), (4, .int v4)] [] M := by
  have hC := hE.1
  have hnm := hE.2.2.2.2.2.2.2.1
  intro n9
  induction n9 with
  | zero => intro _ _ _ _ _ _ h; cases h
  | succ n9 ih =>
    intro v0 v1 v2 v3 v4 M h
    rw [fX4_latestSeen_8] at h
    refine go_iload hC dX4_latestSeen_8 4 rfl ?_
    refine go_if_lt (t := 64) hC dX4_latestSeen_10 (by decide) (fun c1 => ?_) (fun c1 => ?_)
    · have h := os_t h c1
      refine go_iconst hC dX4_latestSeen_64 (v := (0 : Int32)) (by decide +kernel) ?_
      cases h
      exact go_iret hE dX4_latestSeen_65
    · have h := os_f h c1
      refine go_aload_n hC dX4_latestSeen_13 rfl 0 rfl ?_
      obtain ⟨h2, h⟩ := os_1 h
      obtain ⟨b3, h4, h⟩ := os_b h
      refine go_getR 1 hC h2 rfl rfl h4 (C := RX4) (T := TX4) (N := 7) rfl inlX4 (by decide) m_20 (Or.inl rfl) dX4_latestSeen_14 ?_
      refine go_aload_n hC dX4_latestSeen_17 rfl 1 rfl ?_
      obtain ⟨h5, h⟩ := os_1 h
      obtain ⟨b6, h7, h⟩ := os_b h
      refine go_getR 3 hC h5 rfl rfl h7 (C := RX2) (T := TX2) (N := 5) rfl inlX2 (by decide) m_289 (Or.inl rfl) dX4_latestSeen_18 ?_
      refine go_iload hC dX4_latestSeen_21 4 rfl ?_
      obtain ⟨h8, h⟩ := os_1 h
      refine go_iald hC h8.1 h8.2 dX4_latestSeen_23 ?_
      obtain ⟨h12, h⟩ := os_1 h
      obtain ⟨r9, M10, h11, h⟩ := os_c h
      refine go_callV (bytes := cJx4a65c_get_915e3) (maxL := 2) (ret := (some (.object "java/lang/Object"))) (n := 1) (As := [.int (mV M b6 (v4).toNatClampNeg)]) (st := []) hE (c_Jx4a65c_get_915e3 K.2.1 h11) (by unfold okY; decide +kernel) rfl h12 rfl (C := RJx4a65c) (T := TJx4a65c) (N := 3) rfl m_220 m_217 m_218 m_219 m_19 rfl (by simp [Value.category]) (by decide) (by decide) dX4_latestSeen_24 ?_
      refine go_eq (pc' := 27) (st' := [.ref r9]) (M' := M10) (lv' := [(0, .ref v0), (1, .ref v1), (2, .ref v2), (3, .int v3), (4, .int v4)]) ?_ rfl rfl rfl rfl
      obtain ⟨h13, h⟩ := os_1 h
      refine go_cast hC h13 rfl (C := RX3) (T := TX3) (N := 16) rfl m_145 dX4_latestSeen_27 ?_
      refine go_astore (lv' := [(5, .ref r9), (0, .ref v0), (1, .ref v1), (2, .ref v2), (3, .int v3), (4, .int v4)]) hC dX4_latestSeen_30 (by decide) rfl ?_
      refine go_aload hC dX4_latestSeen_32 0 rfl ?_
      refine go_iload_n hC dX4_latestSeen_34 rfl 4 rfl ?_
      obtain ⟨h17, h⟩ := os_1 h
      obtain ⟨r14, M15, h16, h⟩ := os_c h
      refine go_callV (bytes := cX3_wrote) (maxL := 2) (ret := (some .boolean)) (n := 1) (As := [.int v3]) (st := []) hE (c_X3_wrote K.2.1 h16) (by unfold okY; decide +kernel) rfl h17 rfl (C := RX3) (T := TX3) (N := 16) rfl m_281 m_278 m_279 m_280 m_144 rfl (by simp [Value.category]) (by decide) (by decide) dX4_latestSeen_35 ?_
      refine go_eq (pc' := 38) (st' := [.int r14]) (M' := M15) (lv' := [(5, .ref r9), (0, .ref v0), (1, .ref v1), (2, .ref v2), (3, .int v3), (4, .int v4)]) ?_ rfl rfl rfl rfl
      refine go_if_eq (t := 58) hC dX4_latestSeen_38 (by decide) (fun c18 => ?_) (fun c18 => ?_)
      · have h := os_t h c18
        refine go_sub (lv' := [(0, .ref v0), (1, .ref v1), (2, .ref v2), (3, .int v3), (4, .int v4)]) [1, 2, 3, 4, 5] rfl ?_
        exact tX4_latestSeen_58 hE ih _ _ _ _ _ _ h
      · have h := os_f h c18
        refine go_aload hC dX4_latestSeen_41 0 rfl ?_
        refine go_aload_n hC dX4_latestSeen_43 rfl 3 rfl ?_
        obtain ⟨h22, h⟩ := os_1 h
        obtain ⟨r19, M20, h21, h⟩ := os_c h
        refine go_callV (bytes := cX3_isSeenFrom) (maxL := 2) (ret := (some .boolean)) (n := 1) (As := [.ref v2]) (st := []) hE (c_X3_isSeenFrom K.2.1 h21) (by unfold okY; decide +kernel) rfl h22 rfl (C := RX3) (T := TX3) (N := 16) rfl m_293 m_290 m_291 m_292 m_144 rfl (by simp [Value.category]) (by decide) (by decide) dX4_latestSeen_44 ?_
        refine go_eq (pc' := 47) (st' := [.int r19]) (M' := M20) (lv' := [(5, .ref r9), (0, .ref v0), (1, .ref v1), (2, .ref v2), (3, .int v3), (4, .int v4)]) ?_ rfl rfl rfl rfl
        refine go_if_eq (t := 58) hC dX4_latestSeen_47 (by decide) (fun c23 => ?_) (fun c23 => ?_)
        · have h := os_t h c23
          refine go_sub (lv' := [(0, .ref v0), (1, .ref v1), (2, .ref v2), (3, .int v3), (4, .int v4)]) [1, 2, 3, 4, 5] rfl ?_
          exact tX4_latestSeen_58 hE ih _ _ _ _ _ _ h
        · have h := os_f h c23
          refine go_aload hC dX4_latestSeen_50 0 rfl ?_
          obtain ⟨h24, h⟩ := os_1 h
          obtain ⟨b25, h26, h⟩ := os_b h
          refine go_getR 6 hC h24 rfl rfl h26 (C := RX3) (T := TX3) (N := 16) rfl inlX3 (by decide) m_264 (Or.inl rfl) dX4_latestSeen_52 ?_
          refine go_iload_n hC dX4_latestSeen_55 rfl 4 rfl ?_
          obtain ⟨h27, h⟩ := os_1 h
          refine go_iald hC h27.1 h27.2 dX4_latestSeen_56 ?_
          cases h
          exact go_iret hE dX4_latestSeen_57
def fX4_latestSeen (x9 : Cx) (k9 : Nat) (v0 : Nat) (v1 : Nat) (v2 : Nat) (v3 : Int32) (M : Mm) : Option (Int32 × Mm) :=
  if mK M v1 = 3 then fX4_latestSeen_8 x9 k9 k9 v0 v1 v2 v3 ((mV M v1 4) - (1 : Int32)) M else none
set_option maxRecDepth 100000 in
set_option maxHeartbeats 4000000 in
theorem tX4_latestSeen_0 {x9 : Cx} {K : Ct} {k9 : Nat} {M0 M9 : Mm} {r9 : Int32} (hE : Ce x9 K RX4 cX4_latestSeen 6 (some .int) 3 64 "latestSeen" M0) (v0 : Nat) (v1 : Nat) (v2 : Nat) (v3 : Int32) (M : Mm) (h : fX4_latestSeen x9 k9 v0 v1 v2 v3 M = some (r9, M9)) : Go x9 K 6 (Qf x9 K M0 (some (.int r9)) M9) 0 [(0, .ref v0), (1, .ref v1), (2, .ref v2), (3, .int v3)] [] M := by
  have hC := hE.1
  have hnm := hE.2.2.2.2.2.2.2.1
  unfold fX4_latestSeen at h
  refine go_aload_n hC dX4_latestSeen_0 rfl 1 rfl ?_
  obtain ⟨h1, h⟩ := os_1 h
  refine go_getV 4 hC h1 rfl rfl (C := RX2) (T := TX2) (N := 5) rfl inlX2 (by decide) m_288 (Or.inl rfl) dX4_latestSeen_1 ?_
  refine go_iconst hC dX4_latestSeen_4 (v := (1 : Int32)) (by decide +kernel) ?_
  refine go_isub hC dX4_latestSeen_5 ?_
  refine go_istore (lv' := [(4, .int ((mV M v1 4) - (1 : Int32))), (0, .ref v0), (1, .ref v1), (2, .ref v2), (3, .int v3)]) hC dX4_latestSeen_6 (by decide) rfl ?_
  refine go_sub (lv' := [(0, .ref v0), (1, .ref v1), (2, .ref v2), (3, .int v3), (4, .int ((mV M v1 4) - (1 : Int32)))]) [1, 2, 3, 4, 0] rfl ?_
  exact tX4_latestSeen_8 hE k9 _ _ _ _ _ _ h
theorem c_X4_latestSeen (l : Launch) {x9 : Cx} {k9 : Nat} {M M9 : Mm} {r9 : Int32} {v0 : Nat} {v1 : Nat} {v2 : Nat} {v3 : Int32} (h : fX4_latestSeen x9 k9 v0 v1 v2 v3 M = some (r9, M9)) : Fn l x9 yX4_latestSeen cX4_latestSeen 6 (some .int) 3 64 [.ref v0, .ref v1, .ref v2, .int v3] M (some (.int r9)) M9 :=
  Fn.of (by decide +kernel) (Nat.le_of_ble_eq_true rfl) rfl (fun K _ hE => tX4_latestSeen_0 hE _ _ _ _ _ h)
/-! X4_changeSeen -/
def fX4_changeSeen_67 (x9 : Cx) (k9 : Nat) (rec16 : Nat → Nat → Int32 → Nat → Int32 → Int32 → Mm → Option (Int32 × Mm)) (v0 : Nat) (v1 : Nat) (v2 : Int32) (v3 : Nat) (v4 : Int32) (v5 : Int32) (M : Mm) : Option (Int32 × Mm) :=
  rec16 v0 v1 v2 v3 v4 (v5 + 1) M
set_option maxRecDepth 100000 in
set_option maxHeartbeats 4000000 in
theorem tX4_changeSeen_67 {x9 : Cx} {K : Ct} {k9 : Nat} {M0 M9 : Mm} {r9 : Int32} (hE : Ce x9 K RX4 cX4_changeSeen 7 (some .int) 3 64 "changeSeen" M0) {rec16 : Nat → Nat → Int32 → Nat → Int32 → Int32 → Mm → Option (Int32 × Mm)} (hrec16 : ∀ (v0 : Nat) (v1 : Nat) (v2 : Int32) (v3 : Nat) (v4 : Int32) (v5 : Int32) (M : Mm), rec16 v0 v1 v2 v3 v4 v5 M = some (r9, M9) → Go x9 K 7 (Qf x9 K M0 (some (.int r9)) M9) 16 [(0, .ref v0), (1, .ref v1), (2, .int v2), (3, .ref v3), (4, .int v4), (5, .int v5)] [] M) (v0 : Nat) (v1 : Nat) (v2 : Int32) (v3 : Nat) (v4 : Int32) (v5 : Int32) (M : Mm) (h : fX4_changeSeen_67 x9 k9 rec16 v0 v1 v2 v3 v4 v5 M = some (r9, M9)) : Go x9 K 7 (Qf x9 K M0 (some (.int r9)) M9) 67 [(0, .ref v0), (1, .ref v1), (2, .int v2), (3, .ref v3), (4, .int v4), (5, .int v5)] [] M := by
  have hC := hE.1
  have hnm := hE.2.2.2.2.2.2.2.1
  unfold fX4_changeSeen_67 at h
  refine go_iinc (q := 5) (v := (v5 + 1)) (lv' := [(5, .int (v5 + 1)), (0, .ref v0), (1, .ref v1), (2, .int v2), (3, .ref v3), (4, .int v4)]) hC dX4_changeSeen_67 rfl rfl (by decide) rfl ?_
  refine go_goto (t := 16) hC dX4_changeSeen_70 (by decide) ?_
  refine go_sub (lv' := [(0, .ref v0), (1, .ref v1), (2, .int v2), (3, .ref v3), (4, .int v4), (5, .int (v5 + 1))]) [1, 2, 3, 4, 5, 0] rfl ?_
  exact hrec16 _ _ _ _ _ _ _ h
def fX4_changeSeen_16 (x9 : Cx) (k9 : Nat) : Nat → Nat → Nat → Int32 → Nat → Int32 → Int32 → Mm → Option (Int32 × Mm)
  | 0, _, _, _, _, _, _, _ => none
  | n9 + 1, v0, v1, v2, v3, v4, v5, M => if mK M v3 = 3 then if (mV M v3 4) ≤ v5 then some (v4, M) else if mK M v0 = 5 then ob1 (mP M v0 1) (fun b4 => if mK M v3 = 3 then ob1 (mP M v3 3) (fun b7 => if mK M b7 = 8 ∧ ¬ (v5 < 0 ∨ mN M b7 ≤ (v5).toNatClampNeg) then if mK M b4 = 7 then ob2 (fJx4a65c_get_915e3 x9 k9 b4 (mV M b7 (v5).toNatClampNeg) M) (fun r10 M11 => if mK M11 r10 = 4 then if mK M11 v1 = 4 then ob1 (mP M11 v1 4) (fun b16 => if mK M11 r10 = 4 then ob2 (fX3_isSeenFrom x9 k9 r10 b16 M11) (fun r18 M19 => if r18 = 0 then fX4_changeSeen_67 x9 k9 (fX4_changeSeen_16 x9 k9 n9) v0 v1 v2 v3 v4 v5 M19 else if mK M19 r10 = 4 then ob2 (fX3_changeOf x9 k9 r10 v2 M19) (fun r23 M24 => fX4_changeSeen_67 x9 k9 (fX4_changeSeen_16 x9 k9 n9) v0 v1 v2 v3 (v4 + r23) v5 M24) else none) else none) else none else none) else none else none) else none) else none else none
set_option maxRecDepth 100000 in
set_option maxHeartbeats 4000000 in
theorem tX4_changeSeen_16 {x9 : Cx} {K : Ct} {k9 : Nat} {M0 M9 : Mm} {r9 : Int32} (hE : Ce x9 K RX4 cX4_changeSeen 7 (some .int) 3 64 "changeSeen" M0) : ∀ (n9 : Nat) (v0 : Nat) (v1 : Nat) (v2 : Int32) (v3 : Nat) (v4 : Int32) (v5 : Int32) (M : Mm), fX4_changeSeen_16 x9 k9 n9 v0 v1 v2 v3 v4 v5 M = some (r9, M9) → Go x9 K 7 (Qf x9 K M0 (some (.int r9)) M9) 16 [(0, .ref v0), (1, .ref v1), (2, .int v2), (3, .ref v3), (4, .int v4), (5, .int v5)] [] M := by
  have hC := hE.1
  have hnm := hE.2.2.2.2.2.2.2.1
  intro n9
  induction n9 with
  | zero => intro _ _ _ _ _ _ _ h; cases h
  | succ n9 ih =>
    intro v0 v1 v2 v3 v4 v5 M h
    rw [fX4_changeSeen_16] at h
    refine go_iload hC dX4_changeSeen_16 5 rfl ?_
    refine go_aload_n hC dX4_changeSeen_18 rfl 3 rfl ?_
    obtain ⟨h1, h⟩ := os_1 h
    refine go_getV 4 hC h1 rfl rfl (C := RX2) (T := TX2) (N := 5) rfl inlX2 (by decide) m_288 (Or.inl rfl) dX4_changeSeen_19 ?_
    refine go_icmp_ge (t := 73) hC dX4_changeSeen_22 (by decide) (fun c2 => ?_) (fun c2 => ?_)
    · have h := os_t h c2
      refine go_iload hC dX4_changeSeen_73 4 rfl ?_
      cases h
      exact go_iret hE dX4_changeSeen_75
    · have h := os_f h c2
      refine go_aload_n hC dX4_changeSeen_25 rfl 0 rfl ?_
      obtain ⟨h3, h⟩ := os_1 h
      obtain ⟨b4, h5, h⟩ := os_b h
      refine go_getR 1 hC h3 rfl rfl h5 (C := RX4) (T := TX4) (N := 7) rfl inlX4 (by decide) m_20 (Or.inl rfl) dX4_changeSeen_26 ?_
      refine go_aload_n hC dX4_changeSeen_29 rfl 3 rfl ?_
      obtain ⟨h6, h⟩ := os_1 h
      obtain ⟨b7, h8, h⟩ := os_b h
      refine go_getR 3 hC h6 rfl rfl h8 (C := RX2) (T := TX2) (N := 5) rfl inlX2 (by decide) m_289 (Or.inl rfl) dX4_changeSeen_30 ?_
      refine go_iload hC dX4_changeSeen_33 5 rfl ?_
      obtain ⟨h9, h⟩ := os_1 h
      refine go_iald hC h9.1 h9.2 dX4_changeSeen_35 ?_
      obtain ⟨h13, h⟩ := os_1 h
      obtain ⟨r10, M11, h12, h⟩ := os_c h
      refine go_callV (bytes := cJx4a65c_get_915e3) (maxL := 2) (ret := (some (.object "java/lang/Object"))) (n := 1) (As := [.int (mV M b7 (v5).toNatClampNeg)]) (st := []) hE (c_Jx4a65c_get_915e3 K.2.1 h12) (by unfold okY; decide +kernel) rfl h13 rfl (C := RJx4a65c) (T := TJx4a65c) (N := 3) rfl m_220 m_217 m_218 m_219 m_19 rfl (by simp [Value.category]) (by decide) (by decide) dX4_changeSeen_36 ?_
      refine go_eq (pc' := 39) (st' := [.ref r10]) (M' := M11) (lv' := [(0, .ref v0), (1, .ref v1), (2, .int v2), (3, .ref v3), (4, .int v4), (5, .int v5)]) ?_ rfl rfl rfl rfl
      obtain ⟨h14, h⟩ := os_1 h
      refine go_cast hC h14 rfl (C := RX3) (T := TX3) (N := 16) rfl m_145 dX4_changeSeen_39 ?_
      refine go_astore (lv' := [(6, .ref r10), (0, .ref v0), (1, .ref v1), (2, .int v2), (3, .ref v3), (4, .int v4), (5, .int v5)]) hC dX4_changeSeen_42 (by decide) rfl ?_
      refine go_aload hC dX4_changeSeen_44 0 rfl ?_
      refine go_aload_n hC dX4_changeSeen_46 rfl 2 rfl ?_
      obtain ⟨h15, h⟩ := os_1 h
      obtain ⟨b16, h17, h⟩ := os_b h
      refine go_getR 4 hC h15 rfl rfl h17 (C := RX3) (T := TX3) (N := 16) rfl inlX3 (by decide) m_266 (Or.inl rfl) dX4_changeSeen_47 ?_
      obtain ⟨h21, h⟩ := os_1 h
      obtain ⟨r18, M19, h20, h⟩ := os_c h
      refine go_callV (bytes := cX3_isSeenFrom) (maxL := 2) (ret := (some .boolean)) (n := 1) (As := [.ref b16]) (st := []) hE (c_X3_isSeenFrom K.2.1 h20) (by unfold okY; decide +kernel) rfl h21 rfl (C := RX3) (T := TX3) (N := 16) rfl m_293 m_290 m_291 m_292 m_144 rfl (by simp [Value.category]) (by decide) (by decide) dX4_changeSeen_50 ?_
      refine go_eq (pc' := 53) (st' := [.int r18]) (M' := M19) (lv' := [(6, .ref r10), (0, .ref v0), (1, .ref v1), (2, .int v2), (3, .ref v3), (4, .int v4), (5, .int v5)]) ?_ rfl rfl rfl rfl
      refine go_if_eq (t := 67) hC dX4_changeSeen_53 (by decide) (fun c22 => ?_) (fun c22 => ?_)
      · have h := os_t h c22
        refine go_sub (lv' := [(0, .ref v0), (1, .ref v1), (2, .int v2), (3, .ref v3), (4, .int v4), (5, .int v5)]) [1, 2, 3, 4, 5, 6] rfl ?_
        exact tX4_changeSeen_67 hE ih _ _ _ _ _ _ _ h
      · have h := os_f h c22
        refine go_iload hC dX4_changeSeen_56 5 rfl ?_
        refine go_aload hC dX4_changeSeen_58 0 rfl ?_
        refine go_iload_n hC dX4_changeSeen_60 rfl 3 rfl ?_
        obtain ⟨h26, h⟩ := os_1 h
        obtain ⟨r23, M24, h25, h⟩ := os_c h
        refine go_callV (bytes := cX3_changeOf) (maxL := 4) (ret := (some .int)) (n := 1) (As := [.int v2]) (st := [.int v4]) hE (c_X3_changeOf K.2.1 h25) (by unfold okY; decide +kernel) rfl h26 rfl (C := RX3) (T := TX3) (N := 16) rfl m_373 m_370 m_371 m_372 m_144 rfl (by simp [Value.category]) (by decide) (by decide) dX4_changeSeen_61 ?_
        refine go_eq (pc' := 64) (st' := [.int r23, .int v4]) (M' := M24) (lv' := [(6, .ref r10), (0, .ref v0), (1, .ref v1), (2, .int v2), (3, .ref v3), (4, .int v4), (5, .int v5)]) ?_ rfl rfl rfl rfl
        refine go_iadd hC dX4_changeSeen_64 ?_
        refine go_istore (lv' := [(4, .int (v4 + r23)), (6, .ref r10), (0, .ref v0), (1, .ref v1), (2, .int v2), (3, .ref v3), (5, .int v5)]) hC dX4_changeSeen_65 (by decide) rfl ?_
        refine go_sub (lv' := [(0, .ref v0), (1, .ref v1), (2, .int v2), (3, .ref v3), (4, .int (v4 + r23)), (5, .int v5)]) [2, 3, 4, 5, 0, 6] rfl ?_
        exact tX4_changeSeen_67 hE ih _ _ _ _ _ _ _ h
def fX4_changeSeen (x9 : Cx) (k9 : Nat) (v0 : Nat) (v1 : Nat) (v2 : Int32) (M : Mm) : Option (Int32 × Mm) :=
  if mK M v0 = 5 then ob1 (mP M v0 0) (fun b2 => if mK M v1 = 4 then if (mK M b2 = 10 ∨ mK M b2 = 11) ∧ ¬ ((mV M v1 1) < 0 ∨ mN M b2 ≤ ((mV M v1 1)).toNatClampNeg) then ob1 (mP M b2 ((mV M v1 1)).toNatClampNeg) (fun b7 => fX4_changeSeen_16 x9 k9 k9 v0 v1 v2 b7 (0 : Int32) (0 : Int32) M) else none else none) else none
set_option maxRecDepth 100000 in
set_option maxHeartbeats 4000000 in
theorem tX4_changeSeen_0 {x9 : Cx} {K : Ct} {k9 : Nat} {M0 M9 : Mm} {r9 : Int32} (hE : Ce x9 K RX4 cX4_changeSeen 7 (some .int) 3 64 "changeSeen" M0) (v0 : Nat) (v1 : Nat) (v2 : Int32) (M : Mm) (h : fX4_changeSeen x9 k9 v0 v1 v2 M = some (r9, M9)) : Go x9 K 7 (Qf x9 K M0 (some (.int r9)) M9) 0 [(0, .ref v0), (1, .ref v1), (2, .int v2)] [] M := by
  have hC := hE.1
  have hnm := hE.2.2.2.2.2.2.2.1
  unfold fX4_changeSeen at h
  refine go_aload_n hC dX4_changeSeen_0 rfl 0 rfl ?_
  obtain ⟨h1, h⟩ := os_1 h
  obtain ⟨b2, h3, h⟩ := os_b h
  refine go_getR 0 hC h1 rfl rfl h3 (C := RX4) (T := TX4) (N := 7) rfl inlX4 (by decide) m_14 (Or.inl rfl) dX4_changeSeen_1 ?_
  refine go_aload_n hC dX4_changeSeen_4 rfl 1 rfl ?_
  obtain ⟨h4, h⟩ := os_1 h
  refine go_getV 1 hC h4 rfl rfl (C := RX3) (T := TX3) (N := 16) rfl inlX3 (by decide) m_265 (Or.inl rfl) dX4_changeSeen_5 ?_
  obtain ⟨h5, h⟩ := os_1 h
  obtain ⟨b7, h6, h⟩ := os_b h
  refine go_aald hC h5.1 h5.2 h6 dX4_changeSeen_8 ?_
  refine go_astore_n (lv' := [(3, .ref b7), (0, .ref v0), (1, .ref v1), (2, .int v2)]) hC dX4_changeSeen_9 rfl (by decide) rfl ?_
  refine go_iconst hC dX4_changeSeen_10 (v := (0 : Int32)) (by decide +kernel) ?_
  refine go_istore (lv' := [(4, .int (0 : Int32)), (3, .ref b7), (0, .ref v0), (1, .ref v1), (2, .int v2)]) hC dX4_changeSeen_11 (by decide) rfl ?_
  refine go_iconst hC dX4_changeSeen_13 (v := (0 : Int32)) (by decide +kernel) ?_
  refine go_istore (lv' := [(5, .int (0 : Int32)), (4, .int (0 : Int32)), (3, .ref b7), (0, .ref v0), (1, .ref v1), (2, .int v2)]) hC dX4_changeSeen_14 (by decide) rfl ?_
  refine go_sub (lv' := [(0, .ref v0), (1, .ref v1), (2, .int v2), (3, .ref b7), (4, .int (0 : Int32)), (5, .int (0 : Int32))]) [3, 4, 5, 2, 1, 0] rfl ?_
  exact tX4_changeSeen_16 hE k9 _ _ _ _ _ _ _ h
theorem c_X4_changeSeen (l : Launch) {x9 : Cx} {k9 : Nat} {M M9 : Mm} {r9 : Int32} {v0 : Nat} {v1 : Nat} {v2 : Int32} (h : fX4_changeSeen x9 k9 v0 v1 v2 M = some (r9, M9)) : Fn l x9 yX4_changeSeen cX4_changeSeen 7 (some .int) 3 64 [.ref v0, .ref v1, .int v2] M (some (.int r9)) M9 :=
  Fn.of (by decide +kernel) (Nat.le_of_ble_eq_true rfl) rfl (fun K _ hE => tX4_changeSeen_0 hE _ _ _ _ h)
/-! X4_isObjectFit -/
def fX4_isObjectFit_79 (x9 : Cx) (k9 : Nat) (rec28 : Nat → Nat → Int32 → Nat → Int32 → Mm → Option (Int32 × Mm)) (v0 : Nat) (v1 : Nat) (v2 : Int32) (v3 : Nat) (v5 : Int32) (M : Mm) : Option (Int32 × Mm) :=
  rec28 v0 v1 v2 v3 (v5 + 1) M
set_option maxRecDepth 100000 in
set_option maxHeartbeats 4000000 in
theorem tX4_isObjectFit_79 {x9 : Cx} {K : Ct} {k9 : Nat} {M0 M9 : Mm} {r9 : Int32} (hE : Ce x9 K RX4 cX4_isObjectFit 7 (some .boolean) 3 64 "isObjectFit" M0) {rec28 : Nat → Nat → Int32 → Nat → Int32 → Mm → Option (Int32 × Mm)} (hrec28 : ∀ (v0 : Nat) (v1 : Nat) (v2 : Int32) (v3 : Nat) (v5 : Int32) (M : Mm), rec28 v0 v1 v2 v3 v5 M = some (r9, M9) → Go x9 K 7 (Qf x9 K M0 (some (.int r9)) M9) 28 [(0, .ref v0), (1, .ref v1), (2, .int v2), (3, .ref v3), (5, .int v5)] [] M) (v0 : Nat) (v1 : Nat) (v2 : Int32) (v3 : Nat) (v5 : Int32) (M : Mm) (h : fX4_isObjectFit_79 x9 k9 rec28 v0 v1 v2 v3 v5 M = some (r9, M9)) : Go x9 K 7 (Qf x9 K M0 (some (.int r9)) M9) 79 [(0, .ref v0), (1, .ref v1), (2, .int v2), (3, .ref v3), (5, .int v5)] [] M := by
  have hC := hE.1
  have hnm := hE.2.2.2.2.2.2.2.1
  unfold fX4_isObjectFit_79 at h
  refine go_iinc (q := 4) (v := (v5 + 1)) (lv' := [(5, .int (v5 + 1)), (0, .ref v0), (1, .ref v1), (2, .int v2), (3, .ref v3)]) hC dX4_isObjectFit_79 rfl rfl (by decide) rfl ?_
  refine go_goto (t := 28) hC dX4_isObjectFit_82 (by decide) ?_
  refine go_sub (lv' := [(0, .ref v0), (1, .ref v1), (2, .int v2), (3, .ref v3), (5, .int (v5 + 1))]) [1, 2, 3, 4, 0] rfl ?_
  exact hrec28 _ _ _ _ _ _ h
def fX4_isObjectFit_28 (x9 : Cx) (k9 : Nat) : Nat → Nat → Nat → Int32 → Nat → Int32 → Mm → Option (Int32 × Mm)
  | 0, _, _, _, _, _, _ => none
  | n9 + 1, v0, v1, v2, v3, v5, M => if mK M v3 = 3 then if (mV M v3 4) ≤ v5 then if (1 : Int32) = 0 ∨ (1 : Int32) = 1 then some ((1 : Int32), M) else none else if mK M v0 = 5 then ob1 (mP M v0 1) (fun b5 => if mK M v3 = 3 then ob1 (mP M v3 3) (fun b8 => if mK M b8 = 8 ∧ ¬ (v5 < 0 ∨ mN M b8 ≤ (v5).toNatClampNeg) then if mK M b5 = 7 then ob2 (fJx4a65c_get_915e3 x9 k9 b5 (mV M b8 (v5).toNatClampNeg) M) (fun r11 M12 => if mK M12 r11 = 4 then if mK M12 r11 = 4 then ob2 (fX3_wrote x9 k9 r11 v2 M12) (fun r16 M17 => if r16 = 0 then fX4_isObjectFit_79 x9 k9 (fX4_isObjectFit_28 x9 k9 n9) v0 v1 v2 v3 v5 M17 else if mK M17 v1 = 4 then ob1 (mP M17 v1 4) (fun b22 => if mK M17 r11 = 4 then ob2 (fX3_isSeenFrom x9 k9 r11 b22 M17) (fun r24 M25 => if r24 = 0 then if (0 : Int32) = 0 ∨ (0 : Int32) = 1 then some ((0 : Int32), M25) else none else fX4_isObjectFit_79 x9 k9 (fX4_isObjectFit_28 x9 k9 n9) v0 v1 v2 v3 v5 M25) else none) else none) else none else none) else none else none) else none) else none else none
set_option maxRecDepth 100000 in
set_option maxHeartbeats 4000000 in
theorem tX4_isObjectFit_28 {x9 : Cx} {K : Ct} {k9 : Nat} {M0 M9 : Mm} {r9 : Int32} (hE : Ce x9 K RX4 cX4_isObjectFit 7 (some .boolean) 3 64 "isObjectFit" M0) : ∀ (n9 : Nat) (v0 : Nat) (v1 : Nat) (v2 : Int32) (v3 : Nat) (v5 : Int32) (M : Mm), fX4_isObjectFit_28 x9 k9 n9 v0 v1 v2 v3 v5 M = some (r9, M9) → Go x9 K 7 (Qf x9 K M0 (some (.int r9)) M9) 28 [(0, .ref v0), (1, .ref v1), (2, .int v2), (3, .ref v3), (5, .int v5)] [] M := by
  have hC := hE.1
  have hnm := hE.2.2.2.2.2.2.2.1
  intro n9
  induction n9 with
  | zero => intro _ _ _ _ _ _ h; cases h
  | succ n9 ih =>
    intro v0 v1 v2 v3 v5 M h
    rw [fX4_isObjectFit_28] at h
    refine go_iload hC dX4_isObjectFit_28 4 rfl ?_
    refine go_aload_n hC dX4_isObjectFit_30 rfl 3 rfl ?_
    obtain ⟨h1, h⟩ := os_1 h
    refine go_getV 4 hC h1 rfl rfl (C := RX2) (T := TX2) (N := 5) rfl inlX2 (by decide) m_288 (Or.inl rfl) dX4_isObjectFit_31 ?_
    refine go_icmp_ge (t := 85) hC dX4_isObjectFit_34 (by decide) (fun c2 => ?_) (fun c2 => ?_)
    · have h := os_t h c2
      refine go_iconst hC dX4_isObjectFit_85 (v := (1 : Int32)) (by decide +kernel) ?_
      obtain ⟨h3, h⟩ := os_1 h
      cases h
      exact go_zret hE h3 dX4_isObjectFit_86
    · have h := os_f h c2
      refine go_aload_n hC dX4_isObjectFit_37 rfl 0 rfl ?_
      obtain ⟨h4, h⟩ := os_1 h
      obtain ⟨b5, h6, h⟩ := os_b h
      refine go_getR 1 hC h4 rfl rfl h6 (C := RX4) (T := TX4) (N := 7) rfl inlX4 (by decide) m_20 (Or.inl rfl) dX4_isObjectFit_38 ?_
      refine go_aload_n hC dX4_isObjectFit_41 rfl 3 rfl ?_
      obtain ⟨h7, h⟩ := os_1 h
      obtain ⟨b8, h9, h⟩ := os_b h
      refine go_getR 3 hC h7 rfl rfl h9 (C := RX2) (T := TX2) (N := 5) rfl inlX2 (by decide) m_289 (Or.inl rfl) dX4_isObjectFit_42 ?_
      refine go_iload hC dX4_isObjectFit_45 4 rfl ?_
      obtain ⟨h10, h⟩ := os_1 h
      refine go_iald hC h10.1 h10.2 dX4_isObjectFit_47 ?_
      obtain ⟨h14, h⟩ := os_1 h
      obtain ⟨r11, M12, h13, h⟩ := os_c h
      refine go_callV (bytes := cJx4a65c_get_915e3) (maxL := 2) (ret := (some (.object "java/lang/Object"))) (n := 1) (As := [.int (mV M b8 (v5).toNatClampNeg)]) (st := []) hE (c_Jx4a65c_get_915e3 K.2.1 h13) (by unfold okY; decide +kernel) rfl h14 rfl (C := RJx4a65c) (T := TJx4a65c) (N := 3) rfl m_220 m_217 m_218 m_219 m_19 rfl (by simp [Value.category]) (by decide) (by decide) dX4_isObjectFit_48 ?_
      refine go_eq (pc' := 51) (st' := [.ref r11]) (M' := M12) (lv' := [(0, .ref v0), (1, .ref v1), (2, .int v2), (3, .ref v3), (5, .int v5)]) ?_ rfl rfl rfl rfl
      obtain ⟨h15, h⟩ := os_1 h
      refine go_cast hC h15 rfl (C := RX3) (T := TX3) (N := 16) rfl m_145 dX4_isObjectFit_51 ?_
      refine go_astore (lv' := [(6, .ref r11), (0, .ref v0), (1, .ref v1), (2, .int v2), (3, .ref v3), (5, .int v5)]) hC dX4_isObjectFit_54 (by decide) rfl ?_
      refine go_aload hC dX4_isObjectFit_56 0 rfl ?_
      refine go_iload_n hC dX4_isObjectFit_58 rfl 3 rfl ?_
      obtain ⟨h19, h⟩ := os_1 h
      obtain ⟨r16, M17, h18, h⟩ := os_c h
      refine go_callV (bytes := cX3_wrote) (maxL := 2) (ret := (some .boolean)) (n := 1) (As := [.int v2]) (st := []) hE (c_X3_wrote K.2.1 h18) (by unfold okY; decide +kernel) rfl h19 rfl (C := RX3) (T := TX3) (N := 16) rfl m_281 m_278 m_279 m_280 m_144 rfl (by simp [Value.category]) (by decide) (by decide) dX4_isObjectFit_59 ?_
      refine go_eq (pc' := 62) (st' := [.int r16]) (M' := M17) (lv' := [(6, .ref r11), (0, .ref v0), (1, .ref v1), (2, .int v2), (3, .ref v3), (5, .int v5)]) ?_ rfl rfl rfl rfl
      refine go_if_eq (t := 79) hC dX4_isObjectFit_62 (by decide) (fun c20 => ?_) (fun c20 => ?_)
      · have h := os_t h c20
        refine go_sub (lv' := [(0, .ref v0), (1, .ref v1), (2, .int v2), (3, .ref v3), (5, .int v5)]) [1, 2, 3, 4, 5] rfl ?_
        exact tX4_isObjectFit_79 hE ih _ _ _ _ _ _ h
      · have h := os_f h c20
        refine go_aload hC dX4_isObjectFit_65 0 rfl ?_
        refine go_aload_n hC dX4_isObjectFit_67 rfl 2 rfl ?_
        obtain ⟨h21, h⟩ := os_1 h
        obtain ⟨b22, h23, h⟩ := os_b h
        refine go_getR 4 hC h21 rfl rfl h23 (C := RX3) (T := TX3) (N := 16) rfl inlX3 (by decide) m_266 (Or.inl rfl) dX4_isObjectFit_68 ?_
        obtain ⟨h27, h⟩ := os_1 h
        obtain ⟨r24, M25, h26, h⟩ := os_c h
        refine go_callV (bytes := cX3_isSeenFrom) (maxL := 2) (ret := (some .boolean)) (n := 1) (As := [.ref b22]) (st := []) hE (c_X3_isSeenFrom K.2.1 h26) (by unfold okY; decide +kernel) rfl h27 rfl (C := RX3) (T := TX3) (N := 16) rfl m_293 m_290 m_291 m_292 m_144 rfl (by simp [Value.category]) (by decide) (by decide) dX4_isObjectFit_71 ?_
        refine go_eq (pc' := 74) (st' := [.int r24]) (M' := M25) (lv' := [(6, .ref r11), (0, .ref v0), (1, .ref v1), (2, .int v2), (3, .ref v3), (5, .int v5)]) ?_ rfl rfl rfl rfl
        refine go_if_ne (t := 79) hC dX4_isObjectFit_74 (by decide) (fun c28 => ?_) (fun c28 => ?_)
        · have h := os_f h c28
          refine go_sub (lv' := [(0, .ref v0), (1, .ref v1), (2, .int v2), (3, .ref v3), (5, .int v5)]) [1, 2, 3, 4, 5] rfl ?_
          exact tX4_isObjectFit_79 hE ih _ _ _ _ _ _ h
        · have h := os_t h c28
          refine go_iconst hC dX4_isObjectFit_77 (v := (0 : Int32)) (by decide +kernel) ?_
          obtain ⟨h29, h⟩ := os_1 h
          cases h
          exact go_zret hE h29 dX4_isObjectFit_78
def fX4_isObjectFit_25 (x9 : Cx) (k9 : Nat) (v0 : Nat) (v1 : Nat) (v2 : Int32) (v3 : Nat) (M : Mm) : Option (Int32 × Mm) :=
  fX4_isObjectFit_28 x9 k9 k9 v0 v1 v2 v3 (0 : Int32) M
set_option maxRecDepth 100000 in
set_option maxHeartbeats 4000000 in
theorem tX4_isObjectFit_25 {x9 : Cx} {K : Ct} {k9 : Nat} {M0 M9 : Mm} {r9 : Int32} (hE : Ce x9 K RX4 cX4_isObjectFit 7 (some .boolean) 3 64 "isObjectFit" M0) (v0 : Nat) (v1 : Nat) (v2 : Int32) (v3 : Nat) (M : Mm) (h : fX4_isObjectFit_25 x9 k9 v0 v1 v2 v3 M = some (r9, M9)) : Go x9 K 7 (Qf x9 K M0 (some (.int r9)) M9) 25 [(0, .ref v0), (1, .ref v1), (2, .int v2), (3, .ref v3)] [] M := by
  have hC := hE.1
  have hnm := hE.2.2.2.2.2.2.2.1
  unfold fX4_isObjectFit_25 at h
  refine go_iconst hC dX4_isObjectFit_25 (v := (0 : Int32)) (by decide +kernel) ?_
  refine go_istore (lv' := [(5, .int (0 : Int32)), (0, .ref v0), (1, .ref v1), (2, .int v2), (3, .ref v3)]) hC dX4_isObjectFit_26 (by decide) rfl ?_
  refine go_sub (lv' := [(0, .ref v0), (1, .ref v1), (2, .int v2), (3, .ref v3), (5, .int (0 : Int32))]) [1, 2, 3, 4, 0] rfl ?_
  exact tX4_isObjectFit_28 hE k9 _ _ _ _ _ _ h
def fX4_isObjectFit (x9 : Cx) (k9 : Nat) (v0 : Nat) (v1 : Nat) (v2 : Int32) (v3 : Nat) (M : Mm) : Option (Int32 × Mm) :=
  if mK M v3 = 3 then ob1 (mP M v3 2) (fun b2 => if mK M b2 = 8 ∧ ¬ (v2 < 0 ∨ mN M b2 ≤ (v2).toNatClampNeg) then if (mV M b2 (v2).toNatClampNeg) = (-1 : Int32) then fX4_isObjectFit_25 x9 k9 v0 v1 v2 v3 M else if mK M v1 = 4 then if (mV M b2 (v2).toNatClampNeg) = (mV M v1 0) then fX4_isObjectFit_25 x9 k9 v0 v1 v2 v3 M else if (0 : Int32) = 0 ∨ (0 : Int32) = 1 then some ((0 : Int32), M) else none else none else none) else none
set_option maxRecDepth 100000 in
set_option maxHeartbeats 4000000 in
theorem tX4_isObjectFit_0 {x9 : Cx} {K : Ct} {k9 : Nat} {M0 M9 : Mm} {r9 : Int32} (hE : Ce x9 K RX4 cX4_isObjectFit 7 (some .boolean) 3 64 "isObjectFit" M0) (v0 : Nat) (v1 : Nat) (v2 : Int32) (v3 : Nat) (M : Mm) (h : fX4_isObjectFit x9 k9 v0 v1 v2 v3 M = some (r9, M9)) : Go x9 K 7 (Qf x9 K M0 (some (.int r9)) M9) 0 [(0, .ref v0), (1, .ref v1), (2, .int v2), (3, .ref v3)] [] M := by
  have hC := hE.1
  have hnm := hE.2.2.2.2.2.2.2.1
  unfold fX4_isObjectFit at h
  refine go_aload_n hC dX4_isObjectFit_0 rfl 3 rfl ?_
  obtain ⟨h1, h⟩ := os_1 h
  obtain ⟨b2, h3, h⟩ := os_b h
  refine go_getR 2 hC h1 rfl rfl h3 (C := RX2) (T := TX2) (N := 5) rfl inlX2 (by decide) m_412 (Or.inl rfl) dX4_isObjectFit_1 ?_
  refine go_iload_n hC dX4_isObjectFit_4 rfl 2 rfl ?_
  obtain ⟨h4, h⟩ := os_1 h
  refine go_iald hC h4.1 h4.2 dX4_isObjectFit_5 ?_
  refine go_istore (lv' := [(4, .int (mV M b2 (v2).toNatClampNeg)), (0, .ref v0), (1, .ref v1), (2, .int v2), (3, .ref v3)]) hC dX4_isObjectFit_6 (by decide) rfl ?_
  refine go_iload hC dX4_isObjectFit_8 0 rfl ?_
  refine go_iconst hC dX4_isObjectFit_10 (v := (-1 : Int32)) (by decide +kernel) ?_
  refine go_icmp_eq (t := 25) hC dX4_isObjectFit_11 (by decide) (fun c5 => ?_) (fun c5 => ?_)
  · have h := os_t h c5
    refine go_sub (lv' := [(0, .ref v0), (1, .ref v1), (2, .int v2), (3, .ref v3)]) [1, 2, 3, 4] rfl ?_
    exact tX4_isObjectFit_25 hE _ _ _ _ _ h
  · have h := os_f h c5
    refine go_iload hC dX4_isObjectFit_14 0 rfl ?_
    refine go_aload_n hC dX4_isObjectFit_16 rfl 2 rfl ?_
    obtain ⟨h6, h⟩ := os_1 h
    refine go_getV 0 hC h6 rfl rfl (C := RX3) (T := TX3) (N := 16) rfl inlX3 (by decide) m_413 (Or.inl rfl) dX4_isObjectFit_17 ?_
    refine go_icmp_eq (t := 25) hC dX4_isObjectFit_20 (by decide) (fun c7 => ?_) (fun c7 => ?_)
    · have h := os_t h c7
      refine go_sub (lv' := [(0, .ref v0), (1, .ref v1), (2, .int v2), (3, .ref v3)]) [1, 2, 3, 4] rfl ?_
      exact tX4_isObjectFit_25 hE _ _ _ _ _ h
    · have h := os_f h c7
      refine go_iconst hC dX4_isObjectFit_23 (v := (0 : Int32)) (by decide +kernel) ?_
      obtain ⟨h8, h⟩ := os_1 h
      cases h
      exact go_zret hE h8 dX4_isObjectFit_24
theorem c_X4_isObjectFit (l : Launch) {x9 : Cx} {k9 : Nat} {M M9 : Mm} {r9 : Int32} {v0 : Nat} {v1 : Nat} {v2 : Int32} {v3 : Nat} (h : fX4_isObjectFit x9 k9 v0 v1 v2 v3 M = some (r9, M9)) : Fn l x9 yX4_isObjectFit cX4_isObjectFit 7 (some .boolean) 3 64 [.ref v0, .ref v1, .int v2, .ref v3] M (some (.int r9)) M9 :=
  Fn.of (by decide +kernel) (Nat.le_of_ble_eq_true rfl) rfl (fun K _ hE => tX4_isObjectFit_0 hE _ _ _ _ _ h)
/-! X4_isFitAt -/
def fX4_isFitAt_35 (x9 : Cx) (k9 : Nat) (rec2 : Nat → Nat → Int32 → Int32 → Mm → Option (Int32 × Mm)) (v0 : Nat) (v1 : Nat) (v2 : Int32) (v3 : Int32) (M : Mm) : Option (Int32 × Mm) :=
  rec2 v0 v1 v2 (v3 + 1) M
set_option maxRecDepth 100000 in
set_option maxHeartbeats 4000000 in
theorem tX4_isFitAt_35 {x9 : Cx} {K : Ct} {k9 : Nat} {M0 M9 : Mm} {r9 : Int32} (hE : Ce x9 K RX4 cX4_isFitAt 4 (some .boolean) 4 90 "isFitAt" M0) {rec2 : Nat → Nat → Int32 → Int32 → Mm → Option (Int32 × Mm)} (hrec2 : ∀ (v0 : Nat) (v1 : Nat) (v2 : Int32) (v3 : Int32) (M : Mm), rec2 v0 v1 v2 v3 M = some (r9, M9) → Go x9 K 4 (Qf x9 K M0 (some (.int r9)) M9) 2 [(0, .ref v0), (1, .ref v1), (2, .int v2), (3, .int v3)] [] M) (v0 : Nat) (v1 : Nat) (v2 : Int32) (v3 : Int32) (M : Mm) (h : fX4_isFitAt_35 x9 k9 rec2 v0 v1 v2 v3 M = some (r9, M9)) : Go x9 K 4 (Qf x9 K M0 (some (.int r9)) M9) 35 [(0, .ref v0), (1, .ref v1), (2, .int v2), (3, .int v3)] [] M := by
  have hC := hE.1
  have hnm := hE.2.2.2.2.2.2.2.1
  unfold fX4_isFitAt_35 at h
  refine go_iinc (q := 3) (v := (v3 + 1)) (lv' := [(3, .int (v3 + 1)), (0, .ref v0), (1, .ref v1), (2, .int v2)]) hC dX4_isFitAt_35 rfl rfl (by decide) rfl ?_
  refine go_goto (t := 2) hC dX4_isFitAt_38 (by decide) ?_
  refine go_sub (lv' := [(0, .ref v0), (1, .ref v1), (2, .int v2), (3, .int (v3 + 1))]) [1, 2, 3, 0] rfl ?_
  exact hrec2 _ _ _ _ _ h
def fX4_isFitAt_2 (x9 : Cx) (k9 : Nat) : Nat → Nat → Nat → Int32 → Int32 → Mm → Option (Int32 × Mm)
  | 0, _, _, _, _, _ => none
  | n9 + 1, v0, v1, v2, v3, M => if (20 : Int32) ≤ v3 then if (1 : Int32) = 0 ∨ (1 : Int32) = 1 then some ((1 : Int32), M) else none else if mK M v0 = 5 then ob2 (fX4_hasWithHome x9 k9 v0 v1 v3 v2 M) (fun r3 M4 => if r3 = 0 then fX4_isFitAt_35 x9 k9 (fX4_isFitAt_2 x9 k9 n9) v0 v1 v2 v3 M4 else if mK M4 v0 = 5 then ob1 (mP M4 v0 0) (fun b9 => if (mK M4 b9 = 10 ∨ mK M4 b9 = 11) ∧ ¬ (v2 < 0 ∨ mN M4 b9 ≤ (v2).toNatClampNeg) then ob1 (mP M4 b9 (v2).toNatClampNeg) (fun b13 => if mK M4 v0 = 5 then ob2 (fX4_isObjectFit x9 k9 v0 v1 v3 b13 M4) (fun r14 M15 => if r14 = 0 then if (0 : Int32) = 0 ∨ (0 : Int32) = 1 then some ((0 : Int32), M15) else none else fX4_isFitAt_35 x9 k9 (fX4_isFitAt_2 x9 k9 n9) v0 v1 v2 v3 M15) else none) else none) else none) else none
set_option maxRecDepth 100000 in
set_option maxHeartbeats 4000000 in
theorem tX4_isFitAt_2 {x9 : Cx} {K : Ct} {k9 : Nat} {M0 M9 : Mm} {r9 : Int32} (hE : Ce x9 K RX4 cX4_isFitAt 4 (some .boolean) 4 90 "isFitAt" M0) : ∀ (n9 : Nat) (v0 : Nat) (v1 : Nat) (v2 : Int32) (v3 : Int32) (M : Mm), fX4_isFitAt_2 x9 k9 n9 v0 v1 v2 v3 M = some (r9, M9) → Go x9 K 4 (Qf x9 K M0 (some (.int r9)) M9) 2 [(0, .ref v0), (1, .ref v1), (2, .int v2), (3, .int v3)] [] M := by
  have hC := hE.1
  have hnm := hE.2.2.2.2.2.2.2.1
  intro n9
  induction n9 with
  | zero => intro _ _ _ _ _ h; cases h
  | succ n9 ih =>
    intro v0 v1 v2 v3 M h
    rw [fX4_isFitAt_2] at h
    refine go_iload_n hC dX4_isFitAt_2 rfl 3 rfl ?_
    refine go_bipush hC dX4_isFitAt_3 (v := (20 : Int32)) (by decide +kernel) ?_
    refine go_icmp_ge (t := 41) hC dX4_isFitAt_5 (by decide) (fun c1 => ?_) (fun c1 => ?_)
    · have h := os_t h c1
      refine go_iconst hC dX4_isFitAt_41 (v := (1 : Int32)) (by decide +kernel) ?_
      obtain ⟨h2, h⟩ := os_1 h
      cases h
      exact go_zret hE h2 dX4_isFitAt_42
    · have h := os_f h c1
      refine go_aload_n hC dX4_isFitAt_8 rfl 0 rfl ?_
      refine go_aload_n hC dX4_isFitAt_9 rfl 1 rfl ?_
      refine go_iload_n hC dX4_isFitAt_10 rfl 3 rfl ?_
      refine go_iload_n hC dX4_isFitAt_11 rfl 2 rfl ?_
      obtain ⟨h6, h⟩ := os_1 h
      obtain ⟨r3, M4, h5, h⟩ := os_c h
      refine go_callV (bytes := cX4_hasWithHome) (maxL := 4) (ret := (some .boolean)) (n := 3) (As := [.ref v1, .int v3, .int v2]) (st := []) hE (c_X4_hasWithHome K.2.1 h5) (by unfold okY; decide +kernel) rfl h6 rfl (C := RX4) (T := TX4) (N := 7) rfl m_407 m_404 m_405 m_406 m_2 rfl (by simp [Value.category]) (by decide) (by decide) dX4_isFitAt_12 ?_
      refine go_eq (pc' := 15) (st' := [.int r3]) (M' := M4) (lv' := [(0, .ref v0), (1, .ref v1), (2, .int v2), (3, .int v3)]) ?_ rfl rfl rfl rfl
      refine go_if_eq (t := 35) hC dX4_isFitAt_15 (by decide) (fun c7 => ?_) (fun c7 => ?_)
      · have h := os_t h c7
        exact tX4_isFitAt_35 hE ih _ _ _ _ _ h
      · have h := os_f h c7
        refine go_aload_n hC dX4_isFitAt_18 rfl 0 rfl ?_
        refine go_aload_n hC dX4_isFitAt_19 rfl 1 rfl ?_
        refine go_iload_n hC dX4_isFitAt_20 rfl 3 rfl ?_
        refine go_aload_n hC dX4_isFitAt_21 rfl 0 rfl ?_
        obtain ⟨h8, h⟩ := os_1 h
        obtain ⟨b9, h10, h⟩ := os_b h
        refine go_getR 0 hC h8 rfl rfl h10 (C := RX4) (T := TX4) (N := 7) rfl inlX4 (by decide) m_14 (Or.inl rfl) dX4_isFitAt_22 ?_
        refine go_iload_n hC dX4_isFitAt_25 rfl 2 rfl ?_
        obtain ⟨h11, h⟩ := os_1 h
        obtain ⟨b13, h12, h⟩ := os_b h
        refine go_aald hC h11.1 h11.2 h12 dX4_isFitAt_26 ?_
        obtain ⟨h17, h⟩ := os_1 h
        obtain ⟨r14, M15, h16, h⟩ := os_c h
        refine go_callV (bytes := cX4_isObjectFit) (maxL := 7) (ret := (some .boolean)) (n := 3) (As := [.ref v1, .int v3, .ref b13]) (st := []) hE (c_X4_isObjectFit K.2.1 h16) (by unfold okY; decide +kernel) rfl h17 rfl (C := RX4) (T := TX4) (N := 7) rfl m_411 m_408 m_409 m_410 m_2 rfl (by simp [Value.category]) (by decide) (by decide) dX4_isFitAt_27 ?_
        refine go_eq (pc' := 30) (st' := [.int r14]) (M' := M15) (lv' := [(0, .ref v0), (1, .ref v1), (2, .int v2), (3, .int v3)]) ?_ rfl rfl rfl rfl
        refine go_if_ne (t := 35) hC dX4_isFitAt_30 (by decide) (fun c18 => ?_) (fun c18 => ?_)
        · have h := os_f h c18
          exact tX4_isFitAt_35 hE ih _ _ _ _ _ h
        · have h := os_t h c18
          refine go_iconst hC dX4_isFitAt_33 (v := (0 : Int32)) (by decide +kernel) ?_
          obtain ⟨h19, h⟩ := os_1 h
          cases h
          exact go_zret hE h19 dX4_isFitAt_34
def fX4_isFitAt (x9 : Cx) (k9 : Nat) (v0 : Nat) (v1 : Nat) (v2 : Int32) (M : Mm) : Option (Int32 × Mm) :=
  fX4_isFitAt_2 x9 k9 k9 v0 v1 v2 (0 : Int32) M
set_option maxRecDepth 100000 in
set_option maxHeartbeats 4000000 in
theorem tX4_isFitAt_0 {x9 : Cx} {K : Ct} {k9 : Nat} {M0 M9 : Mm} {r9 : Int32} (hE : Ce x9 K RX4 cX4_isFitAt 4 (some .boolean) 4 90 "isFitAt" M0) (v0 : Nat) (v1 : Nat) (v2 : Int32) (M : Mm) (h : fX4_isFitAt x9 k9 v0 v1 v2 M = some (r9, M9)) : Go x9 K 4 (Qf x9 K M0 (some (.int r9)) M9) 0 [(0, .ref v0), (1, .ref v1), (2, .int v2)] [] M := by
  have hC := hE.1
  have hnm := hE.2.2.2.2.2.2.2.1
  unfold fX4_isFitAt at h
  refine go_iconst hC dX4_isFitAt_0 (v := (0 : Int32)) (by decide +kernel) ?_
  refine go_istore_n (lv' := [(3, .int (0 : Int32)), (0, .ref v0), (1, .ref v1), (2, .int v2)]) hC dX4_isFitAt_1 rfl (by decide) rfl ?_
  refine go_sub (lv' := [(0, .ref v0), (1, .ref v1), (2, .int v2), (3, .int (0 : Int32))]) [1, 2, 3, 0] rfl ?_
  exact tX4_isFitAt_2 hE k9 _ _ _ _ _ h
theorem c_X4_isFitAt (l : Launch) {x9 : Cx} {k9 : Nat} {M M9 : Mm} {r9 : Int32} {v0 : Nat} {v1 : Nat} {v2 : Int32} (h : fX4_isFitAt x9 k9 v0 v1 v2 M = some (r9, M9)) : Fn l x9 yX4_isFitAt cX4_isFitAt 4 (some .boolean) 4 90 [.ref v0, .ref v1, .int v2] M (some (.int r9)) M9 :=
  Fn.of (by decide +kernel) (Nat.le_of_ble_eq_true rfl) rfl (fun K _ hE => tX4_isFitAt_0 hE _ _ _ _ h)
/-! X4_leastReady -/
def fX4_leastReady_48 (x9 : Cx) (k9 : Nat) (rec2 : Nat → Int32 → Int32 → Mm → Option (Int32 × Mm)) (v0 : Nat) (v1 : Int32) (v2 : Int32) (M : Mm) : Option (Int32 × Mm) :=
  rec2 v0 v1 (v2 + 1) M
set_option maxRecDepth 100000 in
set_option maxHeartbeats 4000000 in
theorem tX4_leastReady_48 {x9 : Cx} {K : Ct} {k9 : Nat} {M0 M9 : Mm} {r9 : Int32} (hE : Ce x9 K RX4 cX4_leastReady 4 (some .int) 3 64 "leastReady" M0) {rec2 : Nat → Int32 → Int32 → Mm → Option (Int32 × Mm)} (hrec2 : ∀ (v0 : Nat) (v1 : Int32) (v2 : Int32) (M : Mm), rec2 v0 v1 v2 M = some (r9, M9) → Go x9 K 4 (Qf x9 K M0 (some (.int r9)) M9) 2 [(0, .ref v0), (1, .int v1), (2, .int v2)] [] M) (v0 : Nat) (v1 : Int32) (v2 : Int32) (M : Mm) (h : fX4_leastReady_48 x9 k9 rec2 v0 v1 v2 M = some (r9, M9)) : Go x9 K 4 (Qf x9 K M0 (some (.int r9)) M9) 48 [(0, .ref v0), (1, .int v1), (2, .int v2)] [] M := by
  have hC := hE.1
  have hnm := hE.2.2.2.2.2.2.2.1
  unfold fX4_leastReady_48 at h
  refine go_iinc (q := 2) (v := (v2 + 1)) (lv' := [(2, .int (v2 + 1)), (0, .ref v0), (1, .int v1)]) hC dX4_leastReady_48 rfl rfl (by decide) rfl ?_
  refine go_goto (t := 2) hC dX4_leastReady_51 (by decide) ?_
  refine go_sub (lv' := [(0, .ref v0), (1, .int v1), (2, .int (v2 + 1))]) [1, 2, 0] rfl ?_
  exact hrec2 _ _ _ _ h
def fX4_leastReady_2 (x9 : Cx) (k9 : Nat) : Nat → Nat → Int32 → Int32 → Mm → Option (Int32 × Mm)
  | 0, _, _, _, _ => none
  | n9 + 1, v0, v1, v2, M => if mK M v0 = 5 then if (mV M v0 5) ≤ v2 then some ((-1 : Int32), M) else if mK M v0 = 5 then ob1 (mP M v0 1) (fun b4 => if mK M b4 = 7 then ob2 (fJx4a65c_get_915e3 x9 k9 b4 v2 M) (fun r6 M7 => if mK M7 r6 = 4 then if mK M7 r6 = 4 then ob2 (fX4_has x9 k9 (mV M7 r6 13) v1 M7) (fun r12 M13 => if r12 = 0 then fX4_leastReady_48 x9 k9 (fX4_leastReady_2 x9 k9 n9) v0 v1 v2 M13 else if mK M13 v0 = 5 then ob1 (mP M13 v0 0) (fun b18 => if (mK M13 b18 = 10 ∨ mK M13 b18 = 11) ∧ ¬ (v1 < 0 ∨ mN M13 b18 ≤ (v1).toNatClampNeg) then ob1 (mP M13 b18 (v1).toNatClampNeg) (fun b22 => if mK M13 b22 = 3 then ob2 (fX2_isReadyFor x9 k9 b22 r6 M13) (fun r23 M24 => if r23 = 0 then fX4_leastReady_48 x9 k9 (fX4_leastReady_2 x9 k9 n9) v0 v1 v2 M24 else some (v2, M24)) else none) else none) else none) else none else none) else none) else none else none
set_option maxRecDepth 100000 in
set_option maxHeartbeats 4000000 in
theorem tX4_leastReady_2 {x9 : Cx} {K : Ct} {k9 : Nat} {M0 M9 : Mm} {r9 : Int32} (hE : Ce x9 K RX4 cX4_leastReady 4 (some .int) 3 64 "leastReady" M0) : ∀ (n9 : Nat) (v0 : Nat) (v1 : Int32) (v2 : Int32) (M : Mm), fX4_leastReady_2 x9 k9 n9 v0 v1 v2 M = some (r9, M9) → Go x9 K 4 (Qf x9 K M0 (some (.int r9)) M9) 2 [(0, .ref v0), (1, .int v1), (2, .int v2)] [] M := by
  have hC := hE.1
  have hnm := hE.2.2.2.2.2.2.2.1
  intro n9
  induction n9 with
  | zero => intro _ _ _ _ h; cases h
  | succ n9 ih =>
    intro v0 v1 v2 M h
    rw [fX4_leastReady_2] at h
    refine go_iload_n hC dX4_leastReady_2 rfl 2 rfl ?_
    refine go_aload_n hC dX4_leastReady_3 rfl 0 rfl ?_
    obtain ⟨h1, h⟩ := os_1 h
    refine go_getV 5 hC h1 rfl rfl (C := RX4) (T := TX4) (N := 7) rfl inlX4 (by decide) m_56 (Or.inl rfl) dX4_leastReady_4 ?_
    refine go_icmp_ge (t := 54) hC dX4_leastReady_7 (by decide) (fun c2 => ?_) (fun c2 => ?_)
    · have h := os_t h c2
      refine go_iconst hC dX4_leastReady_54 (v := (-1 : Int32)) (by decide +kernel) ?_
      cases h
      exact go_iret hE dX4_leastReady_55
    · have h := os_f h c2
      refine go_aload_n hC dX4_leastReady_10 rfl 0 rfl ?_
      obtain ⟨h3, h⟩ := os_1 h
      obtain ⟨b4, h5, h⟩ := os_b h
      refine go_getR 1 hC h3 rfl rfl h5 (C := RX4) (T := TX4) (N := 7) rfl inlX4 (by decide) m_20 (Or.inl rfl) dX4_leastReady_11 ?_
      refine go_iload_n hC dX4_leastReady_14 rfl 2 rfl ?_
      obtain ⟨h9, h⟩ := os_1 h
      obtain ⟨r6, M7, h8, h⟩ := os_c h
      refine go_callV (bytes := cJx4a65c_get_915e3) (maxL := 2) (ret := (some (.object "java/lang/Object"))) (n := 1) (As := [.int v2]) (st := []) hE (c_Jx4a65c_get_915e3 K.2.1 h8) (by unfold okY; decide +kernel) rfl h9 rfl (C := RJx4a65c) (T := TJx4a65c) (N := 3) rfl m_220 m_217 m_218 m_219 m_19 rfl (by simp [Value.category]) (by decide) (by decide) dX4_leastReady_15 ?_
      refine go_eq (pc' := 18) (st' := [.ref r6]) (M' := M7) (lv' := [(0, .ref v0), (1, .int v1), (2, .int v2)]) ?_ rfl rfl rfl rfl
      obtain ⟨h10, h⟩ := os_1 h
      refine go_cast hC h10 rfl (C := RX3) (T := TX3) (N := 16) rfl m_145 dX4_leastReady_18 ?_
      refine go_astore_n (lv' := [(3, .ref r6), (0, .ref v0), (1, .int v1), (2, .int v2)]) hC dX4_leastReady_21 rfl (by decide) rfl ?_
      refine go_aload_n hC dX4_leastReady_22 rfl 0 rfl ?_
      obtain ⟨h11, h⟩ := os_1 h
      refine go_getV 13 hC h11 rfl rfl (C := RX3) (T := TX3) (N := 16) rfl inlX3 (by decide) m_424 (Or.inl rfl) dX4_leastReady_23 ?_
      refine go_iload_n hC dX4_leastReady_26 rfl 2 rfl ?_
      obtain ⟨r12, M13, h14, h⟩ := os_c h
      refine go_callS (bytes := cX4_has) (maxL := 2) (ret := (some .boolean)) (n := 2) (As := [.int (mV M7 r6 13), .int v1]) (st := []) hE (c_X4_has K.2.1 h14) (by unfold okY; decide +kernel) rfl m_283 m_443 m_282 m_2 rfl (by simp [Value.category]) (by decide) (by decide) dX4_leastReady_27 ?_
      refine go_eq (pc' := 30) (st' := [.int r12]) (M' := M13) (lv' := [(3, .ref r6), (0, .ref v0), (1, .int v1), (2, .int v2)]) ?_ rfl rfl rfl rfl
      refine go_if_eq (t := 48) hC dX4_leastReady_30 (by decide) (fun c16 => ?_) (fun c16 => ?_)
      · have h := os_t h c16
        refine go_sub (lv' := [(0, .ref v0), (1, .int v1), (2, .int v2)]) [1, 2, 3] rfl ?_
        exact tX4_leastReady_48 hE ih _ _ _ _ h
      · have h := os_f h c16
        refine go_aload_n hC dX4_leastReady_33 rfl 1 rfl ?_
        obtain ⟨h17, h⟩ := os_1 h
        obtain ⟨b18, h19, h⟩ := os_b h
        refine go_getR 0 hC h17 rfl rfl h19 (C := RX4) (T := TX4) (N := 7) rfl inlX4 (by decide) m_14 (Or.inl rfl) dX4_leastReady_34 ?_
        refine go_iload_n hC dX4_leastReady_37 rfl 2 rfl ?_
        obtain ⟨h20, h⟩ := os_1 h
        obtain ⟨b22, h21, h⟩ := os_b h
        refine go_aald hC h20.1 h20.2 h21 dX4_leastReady_38 ?_
        refine go_aload_n hC dX4_leastReady_39 rfl 0 rfl ?_
        obtain ⟨h26, h⟩ := os_1 h
        obtain ⟨r23, M24, h25, h⟩ := os_c h
        refine go_callV (bytes := cX2_isReadyFor) (maxL := 3) (ret := (some .boolean)) (n := 1) (As := [.ref r6]) (st := []) hE (c_X2_isReadyFor K.2.1 h25) (by unfold okY; decide +kernel) rfl h26 rfl (C := RX2) (T := TX2) (N := 5) rfl m_605 m_602 m_603 m_604 m_16 rfl (by simp [Value.category]) (by decide) (by decide) dX4_leastReady_40 ?_
        refine go_eq (pc' := 43) (st' := [.int r23]) (M' := M24) (lv' := [(3, .ref r6), (0, .ref v0), (1, .int v1), (2, .int v2)]) ?_ rfl rfl rfl rfl
        refine go_if_eq (t := 48) hC dX4_leastReady_43 (by decide) (fun c27 => ?_) (fun c27 => ?_)
        · have h := os_t h c27
          refine go_sub (lv' := [(0, .ref v0), (1, .int v1), (2, .int v2)]) [1, 2, 3] rfl ?_
          exact tX4_leastReady_48 hE ih _ _ _ _ h
        · have h := os_f h c27
          refine go_iload_n hC dX4_leastReady_46 rfl 3 rfl ?_
          cases h
          exact go_iret hE dX4_leastReady_47
def fX4_leastReady (x9 : Cx) (k9 : Nat) (v0 : Nat) (v1 : Int32) (M : Mm) : Option (Int32 × Mm) :=
  fX4_leastReady_2 x9 k9 k9 v0 v1 (0 : Int32) M
set_option maxRecDepth 100000 in
set_option maxHeartbeats 4000000 in
theorem tX4_leastReady_0 {x9 : Cx} {K : Ct} {k9 : Nat} {M0 M9 : Mm} {r9 : Int32} (hE : Ce x9 K RX4 cX4_leastReady 4 (some .int) 3 64 "leastReady" M0) (v0 : Nat) (v1 : Int32) (M : Mm) (h : fX4_leastReady x9 k9 v0 v1 M = some (r9, M9)) : Go x9 K 4 (Qf x9 K M0 (some (.int r9)) M9) 0 [(0, .ref v0), (1, .int v1)] [] M := by
  have hC := hE.1
  have hnm := hE.2.2.2.2.2.2.2.1
  unfold fX4_leastReady at h
  refine go_iconst hC dX4_leastReady_0 (v := (0 : Int32)) (by decide +kernel) ?_
  refine go_istore_n (lv' := [(2, .int (0 : Int32)), (0, .ref v0), (1, .int v1)]) hC dX4_leastReady_1 rfl (by decide) rfl ?_
  refine go_sub (lv' := [(0, .ref v0), (1, .int v1), (2, .int (0 : Int32))]) [1, 2, 0] rfl ?_
  exact tX4_leastReady_2 hE k9 _ _ _ _ h
theorem c_X4_leastReady (l : Launch) {x9 : Cx} {k9 : Nat} {M M9 : Mm} {r9 : Int32} {v0 : Nat} {v1 : Int32} (h : fX4_leastReady x9 k9 v0 v1 M = some (r9, M9)) : Fn l x9 yX4_leastReady cX4_leastReady 4 (some .int) 3 64 [.ref v0, .int v1] M (some (.int r9)) M9 :=
  Fn.of (by decide +kernel) (Nat.le_of_ble_eq_true rfl) rfl (fun K _ hE => tX4_leastReady_0 hE _ _ _ h)
/-! X4_keptTells -/
def fX4_keptTells_4 (x9 : Cx) (k9 : Nat) : Nat → Nat → Int32 → Int32 → Mm → Option (Int32 × Mm)
  | 0, _, _, _, _ => none
  | n9 + 1, v0, v1, v2, M => if mK M v0 = 5 then if (mV M v0 5) ≤ v2 then some (v1, M) else if mK M v0 = 5 then ob1 (mP M v0 1) (fun b4 => if mK M b4 = 7 then ob2 (fJx4a65c_get_915e3 x9 k9 b4 v2 M) (fun r6 M7 => if mK M7 r6 = 4 then if mK M7 r6 = 4 then ob2 (fJ6_bitCount_0f7a4 x9 k9 (mV M7 r6 13) M7) (fun r12 M13 => fX4_keptTells_4 x9 k9 n9 v0 (v1 + r12) (v2 + 1) M13) else none else none) else none) else none else none
set_option maxRecDepth 100000 in
set_option maxHeartbeats 4000000 in
theorem tX4_keptTells_4 {x9 : Cx} {K : Ct} {k9 : Nat} {M0 M9 : Mm} {r9 : Int32} (hE : Ce x9 K RX4 cX4_keptTells 3 (some .int) 3 64 "keptTells" M0) : ∀ (n9 : Nat) (v0 : Nat) (v1 : Int32) (v2 : Int32) (M : Mm), fX4_keptTells_4 x9 k9 n9 v0 v1 v2 M = some (r9, M9) → Go x9 K 3 (Qf x9 K M0 (some (.int r9)) M9) 4 [(0, .ref v0), (1, .int v1), (2, .int v2)] [] M := by
  have hC := hE.1
  have hnm := hE.2.2.2.2.2.2.2.1
  intro n9
  induction n9 with
  | zero => intro _ _ _ _ h; cases h
  | succ n9 ih =>
    intro v0 v1 v2 M h
    rw [fX4_keptTells_4] at h
    refine go_iload_n hC dX4_keptTells_4 rfl 2 rfl ?_
    refine go_aload_n hC dX4_keptTells_5 rfl 0 rfl ?_
    obtain ⟨h1, h⟩ := os_1 h
    refine go_getV 5 hC h1 rfl rfl (C := RX4) (T := TX4) (N := 7) rfl inlX4 (by decide) m_56 (Or.inl rfl) dX4_keptTells_6 ?_
    refine go_icmp_ge (t := 38) hC dX4_keptTells_9 (by decide) (fun c2 => ?_) (fun c2 => ?_)
    · have h := os_t h c2
      refine go_iload_n hC dX4_keptTells_38 rfl 1 rfl ?_
      cases h
      exact go_iret hE dX4_keptTells_39
    · have h := os_f h c2
      refine go_iload_n hC dX4_keptTells_12 rfl 1 rfl ?_
      refine go_aload_n hC dX4_keptTells_13 rfl 0 rfl ?_
      obtain ⟨h3, h⟩ := os_1 h
      obtain ⟨b4, h5, h⟩ := os_b h
      refine go_getR 1 hC h3 rfl rfl h5 (C := RX4) (T := TX4) (N := 7) rfl inlX4 (by decide) m_20 (Or.inl rfl) dX4_keptTells_14 ?_
      refine go_iload_n hC dX4_keptTells_17 rfl 2 rfl ?_
      obtain ⟨h9, h⟩ := os_1 h
      obtain ⟨r6, M7, h8, h⟩ := os_c h
      refine go_callV (bytes := cJx4a65c_get_915e3) (maxL := 2) (ret := (some (.object "java/lang/Object"))) (n := 1) (As := [.int v2]) (st := [.int v1]) hE (c_Jx4a65c_get_915e3 K.2.1 h8) (by unfold okY; decide +kernel) rfl h9 rfl (C := RJx4a65c) (T := TJx4a65c) (N := 3) rfl m_220 m_217 m_218 m_219 m_19 rfl (by simp [Value.category]) (by decide) (by decide) dX4_keptTells_18 ?_
      refine go_eq (pc' := 21) (st' := [.ref r6, .int v1]) (M' := M7) (lv' := [(0, .ref v0), (1, .int v1), (2, .int v2)]) ?_ rfl rfl rfl rfl
      obtain ⟨h10, h⟩ := os_1 h
      refine go_cast hC h10 rfl (C := RX3) (T := TX3) (N := 16) rfl m_145 dX4_keptTells_21 ?_
      obtain ⟨h11, h⟩ := os_1 h
      refine go_getV 13 hC h11 rfl rfl (C := RX3) (T := TX3) (N := 16) rfl inlX3 (by decide) m_424 (Or.inl rfl) dX4_keptTells_24 ?_
      obtain ⟨r12, M13, h14, h⟩ := os_c h
      refine go_callS (bytes := cJ6_bitCount_0f7a4) (maxL := 1) (ret := (some .int)) (n := 1) (As := [.int (mV M7 r6 13)]) (st := [.int v1]) hE (c_J6_bitCount_0f7a4 K.2.1 h14) (by unfold okY; decide +kernel) rfl m_328 m_466 m_326 m_327 rfl (by simp [Value.category]) (by decide) (by decide) dX4_keptTells_27 ?_
      refine go_eq (pc' := 30) (st' := [.int r12, .int v1]) (M' := M13) (lv' := [(0, .ref v0), (1, .int v1), (2, .int v2)]) ?_ rfl rfl rfl rfl
      refine go_iadd hC dX4_keptTells_30 ?_
      refine go_istore_n (lv' := [(1, .int (v1 + r12)), (0, .ref v0), (2, .int v2)]) hC dX4_keptTells_31 rfl (by decide) rfl ?_
      refine go_iinc (q := 2) (v := (v2 + 1)) (lv' := [(2, .int (v2 + 1)), (1, .int (v1 + r12)), (0, .ref v0)]) hC dX4_keptTells_32 rfl rfl (by decide) rfl ?_
      refine go_goto (t := 4) hC dX4_keptTells_35 (by decide) ?_
      refine go_sub (lv' := [(0, .ref v0), (1, .int (v1 + r12)), (2, .int (v2 + 1))]) [2, 1, 0] rfl ?_
      exact ih _ _ _ _ h
def fX4_keptTells (x9 : Cx) (k9 : Nat) (v0 : Nat) (M : Mm) : Option (Int32 × Mm) :=
  fX4_keptTells_4 x9 k9 k9 v0 (0 : Int32) (0 : Int32) M
set_option maxRecDepth 100000 in
set_option maxHeartbeats 4000000 in
theorem tX4_keptTells_0 {x9 : Cx} {K : Ct} {k9 : Nat} {M0 M9 : Mm} {r9 : Int32} (hE : Ce x9 K RX4 cX4_keptTells 3 (some .int) 3 64 "keptTells" M0) (v0 : Nat) (M : Mm) (h : fX4_keptTells x9 k9 v0 M = some (r9, M9)) : Go x9 K 3 (Qf x9 K M0 (some (.int r9)) M9) 0 [(0, .ref v0)] [] M := by
  have hC := hE.1
  have hnm := hE.2.2.2.2.2.2.2.1
  unfold fX4_keptTells at h
  refine go_iconst hC dX4_keptTells_0 (v := (0 : Int32)) (by decide +kernel) ?_
  refine go_istore_n (lv' := [(1, .int (0 : Int32)), (0, .ref v0)]) hC dX4_keptTells_1 rfl (by decide) rfl ?_
  refine go_iconst hC dX4_keptTells_2 (v := (0 : Int32)) (by decide +kernel) ?_
  refine go_istore_n (lv' := [(2, .int (0 : Int32)), (1, .int (0 : Int32)), (0, .ref v0)]) hC dX4_keptTells_3 rfl (by decide) rfl ?_
  refine go_sub (lv' := [(0, .ref v0), (1, .int (0 : Int32)), (2, .int (0 : Int32))]) [2, 1, 0] rfl ?_
  exact tX4_keptTells_4 hE k9 _ _ _ _ h
theorem c_X4_keptTells (l : Launch) {x9 : Cx} {k9 : Nat} {M M9 : Mm} {r9 : Int32} {v0 : Nat} (h : fX4_keptTells x9 k9 v0 M = some (r9, M9)) : Fn l x9 yX4_keptTells cX4_keptTells 3 (some .int) 3 64 [.ref v0] M (some (.int r9)) M9 :=
  Fn.of (by decide +kernel) (Nat.le_of_ble_eq_true rfl) rfl (fun K _ hE => tX4_keptTells_0 hE _ _ h)
/-! X4_takeTell -/
def fX4_takeTell_26 (x9 : Cx) (k9 : Nat) : Nat → Nat → Int32 → Int32 → Mm → Option (Int32 × Mm)
  | 0, _, _, _, _ => none
  | n9 + 1, v0, v2, v3, M => if mK M v0 = 5 then if (mV M v0 5) ≤ v3 then if mK M v0 = 5 then some ((mV M v0 5), M) else none else if mK M v0 = 5 then ob2 (fX4_leastReady x9 k9 v0 v2 M) (fun r4 M5 => if r4 = (-1 : Int32) then some (v3, M5) else if mK M5 v0 = 5 then ob1 (mP M5 v0 1) (fun b10 => if mK M5 b10 = 7 then ob2 (fJx4a65c_get_915e3 x9 k9 b10 r4 M5) (fun r12 M13 => if mK M13 r12 = 4 then if mK M13 v0 = 5 then ob2 (fX4_applyAt x9 k9 v0 r12 v2 M13) (fun r17 M18 => fX4_takeTell_26 x9 k9 n9 v0 v2 (v3 + 1) M18) else none else none) else none) else none) else none else none
set_option maxRecDepth 100000 in
set_option maxHeartbeats 4000000 in
theorem tX4_takeTell_26 {x9 : Cx} {K : Ct} {k9 : Nat} {M0 M9 : Mm} {r9 : Int32} (hE : Ce x9 K RX4 cX4_takeTell 5 (some .int) 4 87 "takeTell" M0) : ∀ (n9 : Nat) (v0 : Nat) (v2 : Int32) (v3 : Int32) (M : Mm), fX4_takeTell_26 x9 k9 n9 v0 v2 v3 M = some (r9, M9) → Go x9 K 5 (Qf x9 K M0 (some (.int r9)) M9) 26 [(0, .ref v0), (2, .int v2), (3, .int v3)] [] M := by
  have hC := hE.1
  have hnm := hE.2.2.2.2.2.2.2.1
  intro n9
  induction n9 with
  | zero => intro _ _ _ _ h; cases h
  | succ n9 ih =>
    intro v0 v2 v3 M h
    rw [fX4_takeTell_26] at h
    refine go_iload_n hC dX4_takeTell_26 rfl 2 rfl ?_
    refine go_aload_n hC dX4_takeTell_27 rfl 0 rfl ?_
    obtain ⟨h1, h⟩ := os_1 h
    refine go_getV 5 hC h1 rfl rfl (C := RX4) (T := TX4) (N := 7) rfl inlX4 (by decide) m_56 (Or.inl rfl) dX4_takeTell_28 ?_
    refine go_icmp_ge (t := 72) hC dX4_takeTell_31 (by decide) (fun c2 => ?_) (fun c2 => ?_)
    · have h := os_t h c2
      refine go_aload_n hC dX4_takeTell_72 rfl 0 rfl ?_
      obtain ⟨h3, h⟩ := os_1 h
      refine go_getV 5 hC h3 rfl rfl (C := RX4) (T := TX4) (N := 7) rfl inlX4 (by decide) m_56 (Or.inl rfl) dX4_takeTell_73 ?_
      cases h
      exact go_iret hE dX4_takeTell_76
    · have h := os_f h c2
      refine go_aload_n hC dX4_takeTell_34 rfl 0 rfl ?_
      refine go_iload_n hC dX4_takeTell_35 rfl 1 rfl ?_
      obtain ⟨h7, h⟩ := os_1 h
      obtain ⟨r4, M5, h6, h⟩ := os_c h
      refine go_callV (bytes := cX4_leastReady) (maxL := 4) (ret := (some .int)) (n := 1) (As := [.int v2]) (st := []) hE (c_X4_leastReady K.2.1 h6) (by unfold okY; decide +kernel) rfl h7 rfl (C := RX4) (T := TX4) (N := 7) rfl m_601 m_598 m_599 m_600 m_2 rfl (by simp [Value.category]) (by decide) (by decide) dX4_takeTell_36 ?_
      refine go_eq (pc' := 39) (st' := [.int r4]) (M' := M5) (lv' := [(0, .ref v0), (2, .int v2), (3, .int v3)]) ?_ rfl rfl rfl rfl
      refine go_istore (lv' := [(4, .int r4), (0, .ref v0), (2, .int v2), (3, .int v3)]) hC dX4_takeTell_39 (by decide) rfl ?_
      refine go_iload hC dX4_takeTell_41 0 rfl ?_
      refine go_iconst hC dX4_takeTell_43 (v := (-1 : Int32)) (by decide +kernel) ?_
      refine go_icmp_ne (t := 49) hC dX4_takeTell_44 (by decide) (fun c8 => ?_) (fun c8 => ?_)
      · have h := os_f h c8
        refine go_aload_n hC dX4_takeTell_49 rfl 1 rfl ?_
        refine go_aload_n hC dX4_takeTell_50 rfl 1 rfl ?_
        obtain ⟨h9, h⟩ := os_1 h
        obtain ⟨b10, h11, h⟩ := os_b h
        refine go_getR 1 hC h9 rfl rfl h11 (C := RX4) (T := TX4) (N := 7) rfl inlX4 (by decide) m_20 (Or.inl rfl) dX4_takeTell_51 ?_
        refine go_iload hC dX4_takeTell_54 0 rfl ?_
        obtain ⟨h15, h⟩ := os_1 h
        obtain ⟨r12, M13, h14, h⟩ := os_c h
        refine go_callV (bytes := cJx4a65c_get_915e3) (maxL := 2) (ret := (some (.object "java/lang/Object"))) (n := 1) (As := [.int r4]) (st := [.ref v0]) hE (c_Jx4a65c_get_915e3 K.2.1 h14) (by unfold okY; decide +kernel) rfl h15 rfl (C := RJx4a65c) (T := TJx4a65c) (N := 3) rfl m_220 m_217 m_218 m_219 m_19 rfl (by simp [Value.category]) (by decide) (by decide) dX4_takeTell_56 ?_
        refine go_eq (pc' := 59) (st' := [.ref r12, .ref v0]) (M' := M13) (lv' := [(4, .int r4), (0, .ref v0), (2, .int v2), (3, .int v3)]) ?_ rfl rfl rfl rfl
        obtain ⟨h16, h⟩ := os_1 h
        refine go_cast hC h16 rfl (C := RX3) (T := TX3) (N := 16) rfl m_145 dX4_takeTell_59 ?_
        refine go_iload_n hC dX4_takeTell_62 rfl 2 rfl ?_
        obtain ⟨h20, h⟩ := os_1 h
        obtain ⟨r17, M18, h19, h⟩ := os_c h
        refine go_callV (bytes := cX4_applyAt) (maxL := 3) (ret := none) (n := 2) (As := [.ref r12, .int v2]) (st := []) hE (c_X4_applyAt K.2.1 h19) (by unfold okY; decide +kernel) rfl h20 rfl (C := RX4) (T := TX4) (N := 7) rfl m_422 m_419 m_420 m_421 m_2 rfl (by simp [Value.category]) (by decide) (by decide) dX4_takeTell_63 ?_
        refine go_eq (pc' := 66) (st' := []) (M' := M18) (lv' := [(4, .int r4), (0, .ref v0), (2, .int v2), (3, .int v3)]) ?_ rfl rfl rfl rfl
        refine go_iinc (q := 3) (v := (v3 + 1)) (lv' := [(3, .int (v3 + 1)), (4, .int r4), (0, .ref v0), (2, .int v2)]) hC dX4_takeTell_66 rfl rfl (by decide) rfl ?_
        refine go_goto (t := 26) hC dX4_takeTell_69 (by decide) ?_
        refine go_sub (lv' := [(0, .ref v0), (2, .int v2), (3, .int (v3 + 1))]) [2, 3, 0] rfl ?_
        exact ih _ _ _ _ h
      · have h := os_t h c8
        refine go_iload_n hC dX4_takeTell_47 rfl 3 rfl ?_
        cases h
        exact go_iret hE dX4_takeTell_48
def fX4_takeTell_24 (x9 : Cx) (k9 : Nat) (v0 : Nat) (v2 : Int32) (M : Mm) : Option (Int32 × Mm) :=
  fX4_takeTell_26 x9 k9 k9 v0 v2 (0 : Int32) M
set_option maxRecDepth 100000 in
set_option maxHeartbeats 4000000 in
theorem tX4_takeTell_24 {x9 : Cx} {K : Ct} {k9 : Nat} {M0 M9 : Mm} {r9 : Int32} (hE : Ce x9 K RX4 cX4_takeTell 5 (some .int) 4 87 "takeTell" M0) (v0 : Nat) (v2 : Int32) (M : Mm) (h : fX4_takeTell_24 x9 k9 v0 v2 M = some (r9, M9)) : Go x9 K 5 (Qf x9 K M0 (some (.int r9)) M9) 24 [(0, .ref v0), (2, .int v2)] [] M := by
  have hC := hE.1
  have hnm := hE.2.2.2.2.2.2.2.1
  unfold fX4_takeTell_24 at h
  refine go_iconst hC dX4_takeTell_24 (v := (0 : Int32)) (by decide +kernel) ?_
  refine go_istore_n (lv' := [(3, .int (0 : Int32)), (0, .ref v0), (2, .int v2)]) hC dX4_takeTell_25 rfl (by decide) rfl ?_
  refine go_sub (lv' := [(0, .ref v0), (2, .int v2), (3, .int (0 : Int32))]) [1, 2, 0] rfl ?_
  exact tX4_takeTell_26 hE k9 _ _ _ _ h
def fX4_takeTell (x9 : Cx) (k9 : Nat) (v0 : Nat) (v1 : Nat) (v2 : Int32) (M : Mm) : Option (Int32 × Mm) :=
  if mK M v1 = 4 then ob2 (fX4_has x9 k9 (mV M v1 12) v2 M) (fun r2 M3 => if r2 = 0 then if mK M3 v1 = 4 then ob2 (fX4_bit x9 k9 v2 M3) (fun r8 M9 => if mK M9 v1 = 4 then fX4_takeTell_24 x9 k9 v0 v2 (sV M9 v1 13 ((mV M3 v1 13) ||| r8)) else none) else none else fX4_takeTell_24 x9 k9 v0 v2 M3) else none
set_option maxRecDepth 100000 in
set_option maxHeartbeats 4000000 in
theorem tX4_takeTell_0 {x9 : Cx} {K : Ct} {k9 : Nat} {M0 M9 : Mm} {r9 : Int32} (hE : Ce x9 K RX4 cX4_takeTell 5 (some .int) 4 87 "takeTell" M0) (v0 : Nat) (v1 : Nat) (v2 : Int32) (M : Mm) (h : fX4_takeTell x9 k9 v0 v1 v2 M = some (r9, M9)) : Go x9 K 5 (Qf x9 K M0 (some (.int r9)) M9) 0 [(0, .ref v0), (1, .ref v1), (2, .int v2)] [] M := by
  have hC := hE.1
  have hnm := hE.2.2.2.2.2.2.2.1
  unfold fX4_takeTell at h
  refine go_aload_n hC dX4_takeTell_0 rfl 1 rfl ?_
  obtain ⟨h1, h⟩ := os_1 h
  refine go_getV 12 hC h1 rfl rfl (C := RX3) (T := TX3) (N := 16) rfl inlX3 (by decide) m_423 (Or.inl rfl) dX4_takeTell_1 ?_
  refine go_iload_n hC dX4_takeTell_4 rfl 2 rfl ?_
  obtain ⟨r2, M3, h4, h⟩ := os_c h
  refine go_callS (bytes := cX4_has) (maxL := 2) (ret := (some .boolean)) (n := 2) (As := [.int (mV M v1 12), .int v2]) (st := []) hE (c_X4_has K.2.1 h4) (by unfold okY; decide +kernel) rfl m_283 m_443 m_282 m_2 rfl (by simp [Value.category]) (by decide) (by decide) dX4_takeTell_5 ?_
  refine go_eq (pc' := 8) (st' := [.int r2]) (M' := M3) (lv' := [(0, .ref v0), (1, .ref v1), (2, .int v2)]) ?_ rfl rfl rfl rfl
  refine go_if_ne (t := 24) hC dX4_takeTell_8 (by decide) (fun c6 => ?_) (fun c6 => ?_)
  · have h := os_f h c6
    refine go_sub (lv' := [(0, .ref v0), (2, .int v2)]) [0, 2] rfl ?_
    exact tX4_takeTell_24 hE _ _ _ h
  · have h := os_t h c6
    refine go_aload_n hC dX4_takeTell_11 rfl 1 rfl ?_
    refine go_dup hC dX4_takeTell_12 rfl ?_
    obtain ⟨h7, h⟩ := os_1 h
    refine go_getV 13 hC h7 rfl rfl (C := RX3) (T := TX3) (N := 16) rfl inlX3 (by decide) m_424 (Or.inl rfl) dX4_takeTell_13 ?_
    refine go_iload_n hC dX4_takeTell_16 rfl 2 rfl ?_
    obtain ⟨r8, M9, h10, h⟩ := os_c h
    refine go_callS (bytes := cX4_bit) (maxL := 1) (ret := (some .int)) (n := 1) (As := [.int v2]) (st := [.int (mV M3 v1 13), .ref v1]) hE (c_X4_bit K.2.1 h10) (by unfold okY; decide +kernel) rfl m_399 m_397 m_398 m_2 rfl (by simp [Value.category]) (by decide) (by decide) dX4_takeTell_17 ?_
    refine go_eq (pc' := 20) (st' := [.int r8, .int (mV M3 v1 13), .ref v1]) (M' := M9) (lv' := [(0, .ref v0), (1, .ref v1), (2, .int v2)]) ?_ rfl rfl rfl rfl
    refine go_ior hC dX4_takeTell_20 ?_
    obtain ⟨h12, h⟩ := os_1 h
    refine go_putV 13 hC h12 rfl rfl (C := RX3) (T := TX3) (N := 16) rfl inlX3 tyX3 tyX3_ok nmX3 (by decide) m_424 (Or.inl rfl) (Or.inl rfl) (tyX3_ok 13 (by decide)) rfl rfl dX4_takeTell_21 ?_
    refine go_sub (lv' := [(0, .ref v0), (2, .int v2)]) [0, 2] rfl ?_
    exact tX4_takeTell_24 hE _ _ _ h
theorem c_X4_takeTell (l : Launch) {x9 : Cx} {k9 : Nat} {M M9 : Mm} {r9 : Int32} {v0 : Nat} {v1 : Nat} {v2 : Int32} (h : fX4_takeTell x9 k9 v0 v1 v2 M = some (r9, M9)) : Fn l x9 yX4_takeTell cX4_takeTell 5 (some .int) 4 87 [.ref v0, .ref v1, .int v2] M (some (.int r9)) M9 :=
  Fn.of (by decide +kernel) (Nat.le_of_ble_eq_true rfl) rfl (fun K _ hE => tX4_takeTell_0 hE _ _ _ _ h)
/-! X4_send -/
def fX4_send_37 (x9 : Cx) (k9 : Nat) (M : Mm) : Option (Unit × Mm) :=
  some ((), M)
set_option maxRecDepth 100000 in
set_option maxHeartbeats 4000000 in
theorem tX4_send_37 {x9 : Cx} {K : Ct} {k9 : Nat} {M0 M9 : Mm} {r9 : Unit} (hE : Ce x9 K RX4 cX4_send 5 none 7 171 "send" M0) (M : Mm) (h : fX4_send_37 x9 k9 M = some (r9, M9)) : Go x9 K 5 (Qf x9 K M0 none M9) 37 [] [] M := by
  have hC := hE.1
  have hnm := hE.2.2.2.2.2.2.2.1
  unfold fX4_send_37 at h
  cases h
  exact go_vret hE dX4_send_37
def fX4_send (x9 : Cx) (k9 : Nat) (v0 : Nat) (v1 : Int32) (v2 : Int32) (v3 : Int32) (v4 : Int32) (M : Mm) : Option (Unit × Mm) :=
  if mK M v0 = 5 then if mK M v0 = 5 then if mK (sV M v0 6 ((mV M v0 6) + (1 : Int32))) v0 = 5 then ob2 (fX4_hasRoom x9 k9 v0 (sV M v0 6 ((mV M v0 6) + (1 : Int32)))) (fun r3 M4 => if r3 = 0 then fX4_send_37 x9 k9 M4 else if mK M4 v0 = 5 then ob1 (mP M4 v0 2) (fun b9 => if mX M4 + 1 ≤ xC x9 ∧ mS M4 + 4 ≤ xL x9 then ob2 (fX1_init x9 k9 (mX M4) v1 v2 v3 v4 (nO M4 2 0 4)) (fun r12 M13 => if mK M13 b9 = 7 then ob2 (fJx4a65c_add_9ea2d x9 k9 b9 (mX M4) M13) (fun r16 M17 => fX4_send_37 x9 k9 M17) else none) else none) else none) else none else none else none
set_option maxRecDepth 100000 in
set_option maxHeartbeats 4000000 in
theorem tX4_send_0 {x9 : Cx} {K : Ct} {k9 : Nat} {M0 M9 : Mm} {r9 : Unit} (hE : Ce x9 K RX4 cX4_send 5 none 7 171 "send" M0) (v0 : Nat) (v1 : Int32) (v2 : Int32) (v3 : Int32) (v4 : Int32) (M : Mm) (h : fX4_send x9 k9 v0 v1 v2 v3 v4 M = some (r9, M9)) : Go x9 K 5 (Qf x9 K M0 none M9) 0 [(0, .ref v0), (1, .int v1), (2, .int v2), (3, .int v3), (4, .int v4)] [] M := by
  have hC := hE.1
  have hnm := hE.2.2.2.2.2.2.2.1
  unfold fX4_send at h
  refine go_aload_n hC dX4_send_0 rfl 0 rfl ?_
  refine go_dup hC dX4_send_1 rfl ?_
  obtain ⟨h1, h⟩ := os_1 h
  refine go_getV 6 hC h1 rfl rfl (C := RX4) (T := TX4) (N := 7) rfl inlX4 (by decide) m_57 (Or.inl rfl) dX4_send_2 ?_
  refine go_iconst hC dX4_send_5 (v := (1 : Int32)) (by decide +kernel) ?_
  refine go_iadd hC dX4_send_6 ?_
  obtain ⟨h2, h⟩ := os_1 h
  refine go_putV 6 hC h2 rfl rfl (C := RX4) (T := TX4) (N := 7) rfl inlX4 tyX4 tyX4_ok nmX4 (by decide) m_57 (Or.inl rfl) (Or.inl rfl) (tyX4_ok 6 (by decide)) rfl rfl dX4_send_7 ?_
  refine go_aload_n hC dX4_send_10 rfl 0 rfl ?_
  obtain ⟨h6, h⟩ := os_1 h
  obtain ⟨r3, M4, h5, h⟩ := os_c h
  refine go_callV (bytes := cX4_hasRoom) (maxL := 1) (ret := (some .boolean)) (n := 0) (As := []) (st := []) hE (c_X4_hasRoom K.2.1 h5) (by unfold okY; decide +kernel) rfl h6 rfl (C := RX4) (T := TX4) (N := 7) rfl m_454 m_451 m_452 m_453 m_2 rfl (by simp [Value.category]) (by decide) (by decide) dX4_send_11 ?_
  refine go_eq (pc' := 14) (st' := [.int r3]) (M' := M4) (lv' := [(0, .ref v0), (1, .int v1), (2, .int v2), (3, .int v3), (4, .int v4)]) ?_ rfl rfl rfl rfl
  refine go_if_eq (t := 37) hC dX4_send_14 (by decide) (fun c7 => ?_) (fun c7 => ?_)
  · have h := os_t h c7
    refine go_sub (lv' := []) [] rfl ?_
    exact tX4_send_37 hE _ h
  · have h := os_f h c7
    refine go_aload_n hC dX4_send_17 rfl 0 rfl ?_
    obtain ⟨h8, h⟩ := os_1 h
    obtain ⟨b9, h10, h⟩ := os_b h
    refine go_getR 2 hC h8 rfl rfl h10 (C := RX4) (T := TX4) (N := 7) rfl inlX4 (by decide) m_21 (Or.inl rfl) dX4_send_18 ?_
    obtain ⟨h11, h⟩ := os_1 h
    refine go_new (κ := 2) (C := RX1) (T := TX1) (N := 4) hE rfl rfl inlX1 tyX1 tyX1_ok m_538 m_449 m_450 df_2 h11.1 h11.2 dX4_send_21 ?_
    refine go_dup hC dX4_send_24 rfl ?_
    refine go_iload_n hC dX4_send_25 rfl 1 rfl ?_
    refine go_iload_n hC dX4_send_26 rfl 2 rfl ?_
    refine go_iload_n hC dX4_send_27 rfl 3 rfl ?_
    refine go_iload hC dX4_send_28 4 rfl ?_
    obtain ⟨r12, M13, h14, h⟩ := os_c h
    refine go_callIN (bytes := cX1_init) (maxL := 5) (n := 4) (As := [.int v1, .int v2, .int v3, .int v4]) (st := [.ref (mX M4), .ref b9]) hE (c_X1_init K.2.1 h14) (by unfold okY; decide +kernel) rfl (b := (mX M4)) m_456 (i := 4) rfl m_455 rfl m_450 rfl (by simp [Value.category]) (by decide) (by decide) dX4_send_30 ?_
    refine go_eq (pc' := 33) (st' := [.ref (mX M4), .ref b9]) (M' := M13) (lv' := [(0, .ref v0), (1, .int v1), (2, .int v2), (3, .int v3), (4, .int v4)]) ?_ rfl rfl rfl rfl
    obtain ⟨h19, h⟩ := os_1 h
    obtain ⟨r16, M17, h18, h⟩ := os_c h
    refine go_callV (bytes := cJx4a65c_add_9ea2d) (maxL := 2) (ret := (some .boolean)) (n := 1) (As := [.ref (mX M4)]) (st := []) hE (c_Jx4a65c_add_9ea2d K.2.1 h18) (by unfold okY; decide +kernel) rfl h19 rfl (C := RJx4a65c) (T := TJx4a65c) (N := 3) rfl m_170 m_167 m_168 m_169 m_19 rfl (by simp [Value.category]) (by decide) (by decide) dX4_send_33 ?_
    refine go_eq (pc' := 36) (st' := [.int r16]) (M' := M17) (lv' := [(0, .ref v0), (1, .int v1), (2, .int v2), (3, .int v3), (4, .int v4)]) ?_ rfl rfl rfl rfl
    refine go_pop hC dX4_send_36 rfl ?_
    refine go_sub (lv' := []) [] rfl ?_
    exact tX4_send_37 hE _ h
theorem c_X4_send (l : Launch) {x9 : Cx} {k9 : Nat} {M M9 : Mm} {r9 : Unit} {v0 : Nat} {v1 : Int32} {v2 : Int32} {v3 : Int32} {v4 : Int32} (h : fX4_send x9 k9 v0 v1 v2 v3 v4 M = some (r9, M9)) : Fn l x9 yX4_send cX4_send 5 none 7 171 [.ref v0, .int v1, .int v2, .int v3, .int v4] M none M9 :=
  Fn.of (by decide +kernel) (Nat.le_of_ble_eq_true rfl) rfl (fun K _ hE => tX4_send_0 hE _ _ _ _ _ _ h)
/-! X4_sendToAll -/
def fX4_sendToAll_36 (x9 : Cx) (k9 : Nat) (rec3 : Nat → Int32 → Nat → Int32 → Int32 → Mm → Option (Int32 × Mm)) (v0 : Nat) (v1 : Int32) (v2 : Nat) (v3 : Int32) (v4 : Int32) (M : Mm) : Option (Int32 × Mm) :=
  rec3 v0 v1 v2 v3 (v4 + 1) M
set_option maxRecDepth 100000 in
set_option maxHeartbeats 4000000 in
theorem tX4_sendToAll_36 {x9 : Cx} {K : Ct} {k9 : Nat} {M0 M9 : Mm} {r9 : Int32} (hE : Ce x9 K RX4 cX4_sendToAll 5 (some .int) 8 195 "sendToAll" M0) {rec3 : Nat → Int32 → Nat → Int32 → Int32 → Mm → Option (Int32 × Mm)} (hrec3 : ∀ (v0 : Nat) (v1 : Int32) (v2 : Nat) (v3 : Int32) (v4 : Int32) (M : Mm), rec3 v0 v1 v2 v3 v4 M = some (r9, M9) → Go x9 K 5 (Qf x9 K M0 (some (.int r9)) M9) 3 [(0, .ref v0), (1, .int v1), (2, .ref v2), (3, .int v3), (4, .int v4)] [] M) (v0 : Nat) (v1 : Int32) (v2 : Nat) (v3 : Int32) (v4 : Int32) (M : Mm) (h : fX4_sendToAll_36 x9 k9 rec3 v0 v1 v2 v3 v4 M = some (r9, M9)) : Go x9 K 5 (Qf x9 K M0 (some (.int r9)) M9) 36 [(0, .ref v0), (1, .int v1), (2, .ref v2), (3, .int v3), (4, .int v4)] [] M := by
  have hC := hE.1
  have hnm := hE.2.2.2.2.2.2.2.1
  unfold fX4_sendToAll_36 at h
  refine go_iinc (q := 4) (v := (v4 + 1)) (lv' := [(4, .int (v4 + 1)), (0, .ref v0), (1, .int v1), (2, .ref v2), (3, .int v3)]) hC dX4_sendToAll_36 rfl rfl (by decide) rfl ?_
  refine go_goto (t := 3) hC dX4_sendToAll_39 (by decide) ?_
  refine go_sub (lv' := [(0, .ref v0), (1, .int v1), (2, .ref v2), (3, .int v3), (4, .int (v4 + 1))]) [1, 2, 3, 4, 0] rfl ?_
  exact hrec3 _ _ _ _ _ _ h
def fX4_sendToAll_3 (x9 : Cx) (k9 : Nat) : Nat → Nat → Int32 → Nat → Int32 → Int32 → Mm → Option (Int32 × Mm)
  | 0, _, _, _, _, _, _ => none
  | n9 + 1, v0, v1, v2, v3, v4, M => if mK M v0 = 5 then if (mV M v0 4) ≤ v4 then ob2 (fJ6_bitCount_0f7a4 x9 k9 v3 M) (fun r3 M4 => some (r3, M4)) else ob2 (fX4_has x9 k9 v3 v4 M) (fun r7 M8 => if r7 = 0 then fX4_sendToAll_36 x9 k9 (fX4_sendToAll_3 x9 k9 n9) v0 v1 v2 v3 v4 M8 else if mK M8 v2 = 4 then if mK M8 v2 = 4 then if mK M8 v0 = 5 then ob2 (fX4_send x9 k9 v0 v1 (mV M8 v2 1) v4 (mV M8 v2 0) M8) (fun r14 M15 => fX4_sendToAll_36 x9 k9 (fX4_sendToAll_3 x9 k9 n9) v0 v1 v2 v3 v4 M15) else none else none else none) else none
set_option maxRecDepth 100000 in
set_option maxHeartbeats 4000000 in
theorem tX4_sendToAll_3 {x9 : Cx} {K : Ct} {k9 : Nat} {M0 M9 : Mm} {r9 : Int32} (hE : Ce x9 K RX4 cX4_sendToAll 5 (some .int) 8 195 "sendToAll" M0) : ∀ (n9 : Nat) (v0 : Nat) (v1 : Int32) (v2 : Nat) (v3 : Int32) (v4 : Int32) (M : Mm), fX4_sendToAll_3 x9 k9 n9 v0 v1 v2 v3 v4 M = some (r9, M9) → Go x9 K 5 (Qf x9 K M0 (some (.int r9)) M9) 3 [(0, .ref v0), (1, .int v1), (2, .ref v2), (3, .int v3), (4, .int v4)] [] M := by
  have hC := hE.1
  have hnm := hE.2.2.2.2.2.2.2.1
  intro n9
  induction n9 with
  | zero => intro _ _ _ _ _ _ h; cases h
  | succ n9 ih =>
    intro v0 v1 v2 v3 v4 M h
    rw [fX4_sendToAll_3] at h
    refine go_iload hC dX4_sendToAll_3 4 rfl ?_
    refine go_aload_n hC dX4_sendToAll_5 rfl 0 rfl ?_
    obtain ⟨h1, h⟩ := os_1 h
    refine go_getV 4 hC h1 rfl rfl (C := RX4) (T := TX4) (N := 7) rfl inlX4 (by decide) m_55 (Or.inl rfl) dX4_sendToAll_6 ?_
    refine go_icmp_ge (t := 42) hC dX4_sendToAll_9 (by decide) (fun c2 => ?_) (fun c2 => ?_)
    · have h := os_t h c2
      refine go_iload_n hC dX4_sendToAll_42 rfl 3 rfl ?_
      obtain ⟨r3, M4, h5, h⟩ := os_c h
      refine go_callS (bytes := cJ6_bitCount_0f7a4) (maxL := 1) (ret := (some .int)) (n := 1) (As := [.int v3]) (st := []) hE (c_J6_bitCount_0f7a4 K.2.1 h5) (by unfold okY; decide +kernel) rfl m_328 m_466 m_326 m_327 rfl (by simp [Value.category]) (by decide) (by decide) dX4_sendToAll_43 ?_
      refine go_eq (pc' := 46) (st' := [.int r3]) (M' := M4) (lv' := [(0, .ref v0), (1, .int v1), (2, .ref v2), (3, .int v3), (4, .int v4)]) ?_ rfl rfl rfl rfl
      cases h
      exact go_iret hE dX4_sendToAll_46
    · have h := os_f h c2
      refine go_iload_n hC dX4_sendToAll_12 rfl 3 rfl ?_
      refine go_iload hC dX4_sendToAll_13 4 rfl ?_
      obtain ⟨r7, M8, h9, h⟩ := os_c h
      refine go_callS (bytes := cX4_has) (maxL := 2) (ret := (some .boolean)) (n := 2) (As := [.int v3, .int v4]) (st := []) hE (c_X4_has K.2.1 h9) (by unfold okY; decide +kernel) rfl m_283 m_443 m_282 m_2 rfl (by simp [Value.category]) (by decide) (by decide) dX4_sendToAll_15 ?_
      refine go_eq (pc' := 18) (st' := [.int r7]) (M' := M8) (lv' := [(0, .ref v0), (1, .int v1), (2, .ref v2), (3, .int v3), (4, .int v4)]) ?_ rfl rfl rfl rfl
      refine go_if_eq (t := 36) hC dX4_sendToAll_18 (by decide) (fun c11 => ?_) (fun c11 => ?_)
      · have h := os_t h c11
        exact tX4_sendToAll_36 hE ih _ _ _ _ _ _ h
      · have h := os_f h c11
        refine go_aload_n hC dX4_sendToAll_21 rfl 0 rfl ?_
        refine go_iload_n hC dX4_sendToAll_22 rfl 1 rfl ?_
        refine go_aload_n hC dX4_sendToAll_23 rfl 2 rfl ?_
        obtain ⟨h12, h⟩ := os_1 h
        refine go_getV 1 hC h12 rfl rfl (C := RX3) (T := TX3) (N := 16) rfl inlX3 (by decide) m_265 (Or.inl rfl) dX4_sendToAll_24 ?_
        refine go_iload hC dX4_sendToAll_27 4 rfl ?_
        refine go_aload_n hC dX4_sendToAll_29 rfl 2 rfl ?_
        obtain ⟨h13, h⟩ := os_1 h
        refine go_getV 0 hC h13 rfl rfl (C := RX3) (T := TX3) (N := 16) rfl inlX3 (by decide) m_413 (Or.inl rfl) dX4_sendToAll_30 ?_
        obtain ⟨h17, h⟩ := os_1 h
        obtain ⟨r14, M15, h16, h⟩ := os_c h
        refine go_callV (bytes := cX4_send) (maxL := 5) (ret := none) (n := 4) (As := [.int v1, .int (mV M8 v2 1), .int v4, .int (mV M8 v2 0)]) (st := []) hE (c_X4_send K.2.1 h16) (by unfold okY; decide +kernel) rfl h17 rfl (C := RX4) (T := TX4) (N := 7) rfl m_447 m_444 m_445 m_446 m_2 rfl (by simp [Value.category]) (by decide) (by decide) dX4_sendToAll_33 ?_
        refine go_eq (pc' := 36) (st' := []) (M' := M15) (lv' := [(0, .ref v0), (1, .int v1), (2, .ref v2), (3, .int v3), (4, .int v4)]) ?_ rfl rfl rfl rfl
        exact tX4_sendToAll_36 hE ih _ _ _ _ _ _ h
def fX4_sendToAll (x9 : Cx) (k9 : Nat) (v0 : Nat) (v1 : Int32) (v2 : Nat) (v3 : Int32) (M : Mm) : Option (Int32 × Mm) :=
  fX4_sendToAll_3 x9 k9 k9 v0 v1 v2 v3 (0 : Int32) M
set_option maxRecDepth 100000 in
set_option maxHeartbeats 4000000 in
theorem tX4_sendToAll_0 {x9 : Cx} {K : Ct} {k9 : Nat} {M0 M9 : Mm} {r9 : Int32} (hE : Ce x9 K RX4 cX4_sendToAll 5 (some .int) 8 195 "sendToAll" M0) (v0 : Nat) (v1 : Int32) (v2 : Nat) (v3 : Int32) (M : Mm) (h : fX4_sendToAll x9 k9 v0 v1 v2 v3 M = some (r9, M9)) : Go x9 K 5 (Qf x9 K M0 (some (.int r9)) M9) 0 [(0, .ref v0), (1, .int v1), (2, .ref v2), (3, .int v3)] [] M := by
  have hC := hE.1
  have hnm := hE.2.2.2.2.2.2.2.1
  unfold fX4_sendToAll at h
  refine go_iconst hC dX4_sendToAll_0 (v := (0 : Int32)) (by decide +kernel) ?_
  refine go_istore (lv' := [(4, .int (0 : Int32)), (0, .ref v0), (1, .int v1), (2, .ref v2), (3, .int v3)]) hC dX4_sendToAll_1 (by decide) rfl ?_
  refine go_sub (lv' := [(0, .ref v0), (1, .int v1), (2, .ref v2), (3, .int v3), (4, .int (0 : Int32))]) [1, 2, 3, 4, 0] rfl ?_
  exact tX4_sendToAll_3 hE k9 _ _ _ _ _ _ h
theorem c_X4_sendToAll (l : Launch) {x9 : Cx} {k9 : Nat} {M M9 : Mm} {r9 : Int32} {v0 : Nat} {v1 : Int32} {v2 : Nat} {v3 : Int32} (h : fX4_sendToAll x9 k9 v0 v1 v2 v3 M = some (r9, M9)) : Fn l x9 yX4_sendToAll cX4_sendToAll 5 (some .int) 8 195 [.ref v0, .int v1, .ref v2, .int v3] M (some (.int r9)) M9 :=
  Fn.of (by decide +kernel) (Nat.le_of_ble_eq_true rfl) rfl (fun K _ hE => tX4_sendToAll_0 hE _ _ _ _ _ h)
/-! X4_takeAsk -/
def fX4_takeAsk_32 (x9 : Cx) (k9 : Nat) (v0 : Nat) (v1 : Nat) (v2 : Int32) (M : Mm) : Option (Unit × Mm) :=
  if mK M v1 = 4 then if mK M v1 = 4 then if mK M v0 = 5 then ob2 (fX4_send x9 k9 v0 (3 : Int32) v2 (mV M v1 1) (mV M v1 0) M) (fun r3 M4 => some ((), M4)) else none else none else none
set_option maxRecDepth 100000 in
set_option maxHeartbeats 4000000 in
theorem tX4_takeAsk_32 {x9 : Cx} {K : Ct} {k9 : Nat} {M0 M9 : Mm} {r9 : Unit} (hE : Ce x9 K RX4 cX4_takeAsk 3 none 8 195 "takeAsk" M0) (v0 : Nat) (v1 : Nat) (v2 : Int32) (M : Mm) (h : fX4_takeAsk_32 x9 k9 v0 v1 v2 M = some (r9, M9)) : Go x9 K 3 (Qf x9 K M0 none M9) 32 [(0, .ref v0), (1, .ref v1), (2, .int v2)] [] M := by
  have hC := hE.1
  have hnm := hE.2.2.2.2.2.2.2.1
  unfold fX4_takeAsk_32 at h
  refine go_aload_n hC dX4_takeAsk_32 rfl 0 rfl ?_
  refine go_iconst hC dX4_takeAsk_33 (v := (3 : Int32)) (by decide +kernel) ?_
  refine go_iload_n hC dX4_takeAsk_34 rfl 2 rfl ?_
  refine go_aload_n hC dX4_takeAsk_35 rfl 1 rfl ?_
  obtain ⟨h1, h⟩ := os_1 h
  refine go_getV 1 hC h1 rfl rfl (C := RX3) (T := TX3) (N := 16) rfl inlX3 (by decide) m_265 (Or.inl rfl) dX4_takeAsk_36 ?_
  refine go_aload_n hC dX4_takeAsk_39 rfl 1 rfl ?_
  obtain ⟨h2, h⟩ := os_1 h
  refine go_getV 0 hC h2 rfl rfl (C := RX3) (T := TX3) (N := 16) rfl inlX3 (by decide) m_413 (Or.inl rfl) dX4_takeAsk_40 ?_
  obtain ⟨h6, h⟩ := os_1 h
  obtain ⟨r3, M4, h5, h⟩ := os_c h
  refine go_callV (bytes := cX4_send) (maxL := 5) (ret := none) (n := 4) (As := [.int (3 : Int32), .int v2, .int (mV M v1 1), .int (mV M v1 0)]) (st := []) hE (c_X4_send K.2.1 h5) (by unfold okY; decide +kernel) rfl h6 rfl (C := RX4) (T := TX4) (N := 7) rfl m_447 m_444 m_445 m_446 m_2 rfl (by simp [Value.category]) (by decide) (by decide) dX4_takeAsk_43 ?_
  refine go_eq (pc' := 46) (st' := []) (M' := M4) (lv' := [(0, .ref v0), (1, .ref v1), (2, .int v2)]) ?_ rfl rfl rfl rfl
  cases h
  exact go_vret hE dX4_takeAsk_46
def fX4_takeAsk (x9 : Cx) (k9 : Nat) (v0 : Nat) (v1 : Nat) (v2 : Int32) (M : Mm) : Option (Unit × Mm) :=
  if mK M v1 = 4 then ob2 (fX4_has x9 k9 (mV M v1 12) v2 M) (fun r2 M3 => if r2 = 0 then if mK M3 v1 = 4 then ob2 (fX4_has x9 k9 (mV M3 v1 14) v2 M3) (fun r8 M9 => if r8 = 0 then if mK M9 v0 = 5 then ob2 (fX4_isFitAt x9 k9 v0 v1 v2 M9) (fun r13 M14 => if r13 = 0 then fX4_takeAsk_32 x9 k9 v0 v1 v2 M14 else if mK M14 v0 = 5 then ob2 (fX4_lockAt x9 k9 v0 v1 v2 M14) (fun r18 M19 => if mK M19 v1 = 4 then if mK M19 v1 = 4 then if mK M19 v0 = 5 then ob2 (fX4_send x9 k9 v0 (2 : Int32) v2 (mV M19 v1 1) (mV M19 v1 0) M19) (fun r24 M25 => some ((), M25)) else none else none else none) else none) else none else fX4_takeAsk_32 x9 k9 v0 v1 v2 M9) else none else some ((), M3)) else none
set_option maxRecDepth 100000 in
set_option maxHeartbeats 4000000 in
theorem tX4_takeAsk_0 {x9 : Cx} {K : Ct} {k9 : Nat} {M0 M9 : Mm} {r9 : Unit} (hE : Ce x9 K RX4 cX4_takeAsk 3 none 8 195 "takeAsk" M0) (v0 : Nat) (v1 : Nat) (v2 : Int32) (M : Mm) (h : fX4_takeAsk x9 k9 v0 v1 v2 M = some (r9, M9)) : Go x9 K 3 (Qf x9 K M0 none M9) 0 [(0, .ref v0), (1, .ref v1), (2, .int v2)] [] M := by
  have hC := hE.1
  have hnm := hE.2.2.2.2.2.2.2.1
  unfold fX4_takeAsk at h
  refine go_aload_n hC dX4_takeAsk_0 rfl 1 rfl ?_
  obtain ⟨h1, h⟩ := os_1 h
  refine go_getV 12 hC h1 rfl rfl (C := RX3) (T := TX3) (N := 16) rfl inlX3 (by decide) m_423 (Or.inl rfl) dX4_takeAsk_1 ?_
  refine go_iload_n hC dX4_takeAsk_4 rfl 2 rfl ?_
  obtain ⟨r2, M3, h4, h⟩ := os_c h
  refine go_callS (bytes := cX4_has) (maxL := 2) (ret := (some .boolean)) (n := 2) (As := [.int (mV M v1 12), .int v2]) (st := []) hE (c_X4_has K.2.1 h4) (by unfold okY; decide +kernel) rfl m_283 m_443 m_282 m_2 rfl (by simp [Value.category]) (by decide) (by decide) dX4_takeAsk_5 ?_
  refine go_eq (pc' := 8) (st' := [.int r2]) (M' := M3) (lv' := [(0, .ref v0), (1, .ref v1), (2, .int v2)]) ?_ rfl rfl rfl rfl
  refine go_if_eq (t := 12) hC dX4_takeAsk_8 (by decide) (fun c6 => ?_) (fun c6 => ?_)
  · have h := os_t h c6
    refine go_aload_n hC dX4_takeAsk_12 rfl 1 rfl ?_
    obtain ⟨h7, h⟩ := os_1 h
    refine go_getV 14 hC h7 rfl rfl (C := RX3) (T := TX3) (N := 16) rfl inlX3 (by decide) m_572 (Or.inl rfl) dX4_takeAsk_13 ?_
    refine go_iload_n hC dX4_takeAsk_16 rfl 2 rfl ?_
    obtain ⟨r8, M9, h10, h⟩ := os_c h
    refine go_callS (bytes := cX4_has) (maxL := 2) (ret := (some .boolean)) (n := 2) (As := [.int (mV M3 v1 14), .int v2]) (st := []) hE (c_X4_has K.2.1 h10) (by unfold okY; decide +kernel) rfl m_283 m_443 m_282 m_2 rfl (by simp [Value.category]) (by decide) (by decide) dX4_takeAsk_17 ?_
    refine go_eq (pc' := 20) (st' := [.int r8]) (M' := M9) (lv' := [(0, .ref v0), (1, .ref v1), (2, .int v2)]) ?_ rfl rfl rfl rfl
    refine go_if_ne (t := 32) hC dX4_takeAsk_20 (by decide) (fun c12 => ?_) (fun c12 => ?_)
    · have h := os_f h c12
      exact tX4_takeAsk_32 hE _ _ _ _ h
    · have h := os_t h c12
      refine go_aload_n hC dX4_takeAsk_23 rfl 0 rfl ?_
      refine go_aload_n hC dX4_takeAsk_24 rfl 1 rfl ?_
      refine go_iload_n hC dX4_takeAsk_25 rfl 2 rfl ?_
      obtain ⟨h16, h⟩ := os_1 h
      obtain ⟨r13, M14, h15, h⟩ := os_c h
      refine go_callV (bytes := cX4_isFitAt) (maxL := 4) (ret := (some .boolean)) (n := 2) (As := [.ref v1, .int v2]) (st := []) hE (c_X4_isFitAt K.2.1 h15) (by unfold okY; decide +kernel) rfl h16 rfl (C := RX4) (T := TX4) (N := 7) rfl m_403 m_400 m_401 m_402 m_2 rfl (by simp [Value.category]) (by decide) (by decide) dX4_takeAsk_26 ?_
      refine go_eq (pc' := 29) (st' := [.int r13]) (M' := M14) (lv' := [(0, .ref v0), (1, .ref v1), (2, .int v2)]) ?_ rfl rfl rfl rfl
      refine go_if_ne (t := 47) hC dX4_takeAsk_29 (by decide) (fun c17 => ?_) (fun c17 => ?_)
      · have h := os_f h c17
        refine go_aload_n hC dX4_takeAsk_47 rfl 0 rfl ?_
        refine go_aload_n hC dX4_takeAsk_48 rfl 1 rfl ?_
        refine go_iload_n hC dX4_takeAsk_49 rfl 2 rfl ?_
        obtain ⟨h21, h⟩ := os_1 h
        obtain ⟨r18, M19, h20, h⟩ := os_c h
        refine go_callV (bytes := cX4_lockAt) (maxL := 4) (ret := none) (n := 2) (As := [.ref v1, .int v2]) (st := []) hE (c_X4_lockAt K.2.1 h20) (by unfold okY; decide +kernel) rfl h21 rfl (C := RX4) (T := TX4) (N := 7) rfl m_475 m_472 m_473 m_474 m_2 rfl (by simp [Value.category]) (by decide) (by decide) dX4_takeAsk_50 ?_
        refine go_eq (pc' := 53) (st' := []) (M' := M19) (lv' := [(0, .ref v0), (1, .ref v1), (2, .int v2)]) ?_ rfl rfl rfl rfl
        refine go_aload_n hC dX4_takeAsk_53 rfl 0 rfl ?_
        refine go_iconst hC dX4_takeAsk_54 (v := (2 : Int32)) (by decide +kernel) ?_
        refine go_iload_n hC dX4_takeAsk_55 rfl 2 rfl ?_
        refine go_aload_n hC dX4_takeAsk_56 rfl 1 rfl ?_
        obtain ⟨h22, h⟩ := os_1 h
        refine go_getV 1 hC h22 rfl rfl (C := RX3) (T := TX3) (N := 16) rfl inlX3 (by decide) m_265 (Or.inl rfl) dX4_takeAsk_57 ?_
        refine go_aload_n hC dX4_takeAsk_60 rfl 1 rfl ?_
        obtain ⟨h23, h⟩ := os_1 h
        refine go_getV 0 hC h23 rfl rfl (C := RX3) (T := TX3) (N := 16) rfl inlX3 (by decide) m_413 (Or.inl rfl) dX4_takeAsk_61 ?_
        obtain ⟨h27, h⟩ := os_1 h
        obtain ⟨r24, M25, h26, h⟩ := os_c h
        refine go_callV (bytes := cX4_send) (maxL := 5) (ret := none) (n := 4) (As := [.int (2 : Int32), .int v2, .int (mV M19 v1 1), .int (mV M19 v1 0)]) (st := []) hE (c_X4_send K.2.1 h26) (by unfold okY; decide +kernel) rfl h27 rfl (C := RX4) (T := TX4) (N := 7) rfl m_447 m_444 m_445 m_446 m_2 rfl (by simp [Value.category]) (by decide) (by decide) dX4_takeAsk_64 ?_
        refine go_eq (pc' := 67) (st' := []) (M' := M25) (lv' := [(0, .ref v0), (1, .ref v1), (2, .int v2)]) ?_ rfl rfl rfl rfl
        cases h
        exact go_vret hE dX4_takeAsk_67
      · have h := os_t h c17
        exact tX4_takeAsk_32 hE _ _ _ _ h
  · have h := os_f h c6
    cases h
    exact go_vret hE dX4_takeAsk_11
theorem c_X4_takeAsk (l : Launch) {x9 : Cx} {k9 : Nat} {M M9 : Mm} {r9 : Unit} {v0 : Nat} {v1 : Nat} {v2 : Int32} (h : fX4_takeAsk x9 k9 v0 v1 v2 M = some (r9, M9)) : Fn l x9 yX4_takeAsk cX4_takeAsk 3 none 8 195 [.ref v0, .ref v1, .int v2] M none M9 :=
  Fn.of (by decide +kernel) (Nat.le_of_ble_eq_true rfl) rfl (fun K _ hE => tX4_takeAsk_0 hE _ _ _ _ h)
/-! X4_makeWaiting -/
def fX4_makeWaiting (x9 : Cx) (k9 : Nat) (v0 : Nat) (v1 : Nat) (v2 : Int32) (M : Mm) : Option (Unit × Mm) :=
  if mK M v1 = 4 then if mK M v0 = 5 then ob2 (fX4_lockAt x9 k9 v0 v1 (mV M v1 1) M) (fun r2 M3 => if mK M3 v1 = 4 then if mK (sV M3 v1 2 (1 : Int32)) v1 = 4 then if mK (sV (sV M3 v1 2 (1 : Int32)) v1 10 v2) v0 = 5 then ob2 (fX4_sendToAll x9 k9 v0 (1 : Int32) v1 v2 (sV (sV M3 v1 2 (1 : Int32)) v1 10 v2)) (fun r8 M9 => some ((), M9)) else none else none else none) else none else none
set_option maxRecDepth 100000 in
set_option maxHeartbeats 4000000 in
theorem tX4_makeWaiting_0 {x9 : Cx} {K : Ct} {k9 : Nat} {M0 M9 : Mm} {r9 : Unit} (hE : Ce x9 K RX4 cX4_makeWaiting 3 none 9 219 "makeWaiting" M0) (v0 : Nat) (v1 : Nat) (v2 : Int32) (M : Mm) (h : fX4_makeWaiting x9 k9 v0 v1 v2 M = some (r9, M9)) : Go x9 K 3 (Qf x9 K M0 none M9) 0 [(0, .ref v0), (1, .ref v1), (2, .int v2)] [] M := by
  have hC := hE.1
  have hnm := hE.2.2.2.2.2.2.2.1
  unfold fX4_makeWaiting at h
  refine go_aload_n hC dX4_makeWaiting_0 rfl 0 rfl ?_
  refine go_aload_n hC dX4_makeWaiting_1 rfl 1 rfl ?_
  refine go_aload_n hC dX4_makeWaiting_2 rfl 1 rfl ?_
  obtain ⟨h1, h⟩ := os_1 h
  refine go_getV 1 hC h1 rfl rfl (C := RX3) (T := TX3) (N := 16) rfl inlX3 (by decide) m_265 (Or.inl rfl) dX4_makeWaiting_3 ?_
  obtain ⟨h5, h⟩ := os_1 h
  obtain ⟨r2, M3, h4, h⟩ := os_c h
  refine go_callV (bytes := cX4_lockAt) (maxL := 4) (ret := none) (n := 2) (As := [.ref v1, .int (mV M v1 1)]) (st := []) hE (c_X4_lockAt K.2.1 h4) (by unfold okY; decide +kernel) rfl h5 rfl (C := RX4) (T := TX4) (N := 7) rfl m_475 m_472 m_473 m_474 m_2 rfl (by simp [Value.category]) (by decide) (by decide) dX4_makeWaiting_6 ?_
  refine go_eq (pc' := 9) (st' := []) (M' := M3) (lv' := [(0, .ref v0), (1, .ref v1), (2, .int v2)]) ?_ rfl rfl rfl rfl
  refine go_aload_n hC dX4_makeWaiting_9 rfl 1 rfl ?_
  refine go_iconst hC dX4_makeWaiting_10 (v := (1 : Int32)) (by decide +kernel) ?_
  obtain ⟨h6, h⟩ := os_1 h
  refine go_putV 2 hC h6 rfl rfl (C := RX3) (T := TX3) (N := 16) rfl inlX3 tyX3 tyX3_ok nmX3 (by decide) m_277 (Or.inl rfl) (Or.inl rfl) (tyX3_ok 2 (by decide)) rfl rfl dX4_makeWaiting_11 ?_
  refine go_aload_n hC dX4_makeWaiting_14 rfl 1 rfl ?_
  refine go_iload_n hC dX4_makeWaiting_15 rfl 2 rfl ?_
  obtain ⟨h7, h⟩ := os_1 h
  refine go_putV 10 hC h7 rfl rfl (C := RX3) (T := TX3) (N := 16) rfl inlX3 tyX3 tyX3_ok nmX3 (by decide) m_471 (Or.inl rfl) (Or.inl rfl) (tyX3_ok 10 (by decide)) rfl rfl dX4_makeWaiting_16 ?_
  refine go_aload_n hC dX4_makeWaiting_19 rfl 0 rfl ?_
  refine go_iconst hC dX4_makeWaiting_20 (v := (1 : Int32)) (by decide +kernel) ?_
  refine go_aload_n hC dX4_makeWaiting_21 rfl 1 rfl ?_
  refine go_iload_n hC dX4_makeWaiting_22 rfl 2 rfl ?_
  obtain ⟨h11, h⟩ := os_1 h
  obtain ⟨r8, M9, h10, h⟩ := os_c h
  refine go_callV (bytes := cX4_sendToAll) (maxL := 5) (ret := (some .int)) (n := 3) (As := [.int (1 : Int32), .ref v1, .int v2]) (st := []) hE (c_X4_sendToAll K.2.1 h10) (by unfold okY; decide +kernel) rfl h11 rfl (C := RX4) (T := TX4) (N := 7) rfl m_442 m_439 m_440 m_441 m_2 rfl (by simp [Value.category]) (by decide) (by decide) dX4_makeWaiting_23 ?_
  refine go_eq (pc' := 26) (st' := [.int r8]) (M' := M9) (lv' := [(0, .ref v0), (1, .ref v1), (2, .int v2)]) ?_ rfl rfl rfl rfl
  refine go_pop hC dX4_makeWaiting_26 rfl ?_
  cases h
  exact go_vret hE dX4_makeWaiting_27
theorem c_X4_makeWaiting (l : Launch) {x9 : Cx} {k9 : Nat} {M M9 : Mm} {r9 : Unit} {v0 : Nat} {v1 : Nat} {v2 : Int32} (h : fX4_makeWaiting x9 k9 v0 v1 v2 M = some (r9, M9)) : Fn l x9 yX4_makeWaiting cX4_makeWaiting 3 none 9 219 [.ref v0, .ref v1, .int v2] M none M9 :=
  Fn.of (by decide +kernel) (Nat.le_of_ble_eq_true rfl) rfl (fun K _ hE => tX4_makeWaiting_0 hE _ _ _ _ h)
/-! X4_makeCommitted -/
def fX4_makeCommitted (x9 : Cx) (k9 : Nat) (v0 : Nat) (v1 : Nat) (M : Mm) : Option (Unit × Mm) :=
  if mK M v1 = 4 then if mK (sV M v1 2 (2 : Int32)) v0 = 5 then ob1 (mP (sV M v1 2 (2 : Int32)) v0 0) (fun b3 => if mK (sV M v1 2 (2 : Int32)) v1 = 4 then if (mK (sV M v1 2 (2 : Int32)) b3 = 10 ∨ mK (sV M v1 2 (2 : Int32)) b3 = 11) ∧ ¬ ((mV (sV M v1 2 (2 : Int32)) v1 1) < 0 ∨ mN (sV M v1 2 (2 : Int32)) b3 ≤ ((mV (sV M v1 2 (2 : Int32)) v1 1)).toNatClampNeg) then ob1 (mP (sV M v1 2 (2 : Int32)) b3 ((mV (sV M v1 2 (2 : Int32)) v1 1)).toNatClampNeg) (fun b8 => if mK (sV M v1 2 (2 : Int32)) b8 = 3 then ob1 (mP (sV M v1 2 (2 : Int32)) b8 1) (fun b10 => if mK (sV M v1 2 (2 : Int32)) v1 = 4 then if mK (sV M v1 2 (2 : Int32)) b10 = 8 ∧ ¬ ((mV (sV M v1 2 (2 : Int32)) v1 1) < 0 ∨ mN (sV M v1 2 (2 : Int32)) b10 ≤ ((mV (sV M v1 2 (2 : Int32)) v1 1)).toNatClampNeg) then if mK (sV M v1 2 (2 : Int32)) v1 = 4 then lt1 (sV (sV M v1 2 (2 : Int32)) v1 3 ((mV (sV M v1 2 (2 : Int32)) b10 ((mV (sV M v1 2 (2 : Int32)) v1 1)).toNatClampNeg) + (1 : Int32))) (fun M15 => if mK M15 v1 = 4 then if mK M15 v0 = 5 then ob2 (fX4_applyAt x9 k9 v0 v1 (mV M15 v1 1) M15) (fun r18 M19 => if mK M19 v0 = 5 then ob2 (fX4_allSites x9 k9 v0 M19) (fun r22 M23 => if mK M23 v1 = 4 then ob2 (fX4_bit x9 k9 (mV M23 v1 1) M23) (fun r27 M28 => if mK M28 v0 = 5 then ob2 (fX4_sendToAll x9 k9 v0 (5 : Int32) v1 (r22 &&& (r27 ^^^ (-1 : Int32))) M28) (fun r31 M32 => some ((), M32)) else none) else none) else none) else none else none) else none else none else none) else none) else none else none) else none else none
set_option maxRecDepth 100000 in
set_option maxHeartbeats 4000000 in
theorem tX4_makeCommitted_0 {x9 : Cx} {K : Ct} {k9 : Nat} {M0 M9 : Mm} {r9 : Unit} (hE : Ce x9 K RX4 cX4_makeCommitted 2 none 9 219 "makeCommitted" M0) (v0 : Nat) (v1 : Nat) (M : Mm) (h : fX4_makeCommitted x9 k9 v0 v1 M = some (r9, M9)) : Go x9 K 2 (Qf x9 K M0 none M9) 0 [(0, .ref v0), (1, .ref v1)] [] M := by
  have hC := hE.1
  have hnm := hE.2.2.2.2.2.2.2.1
  unfold fX4_makeCommitted at h
  refine go_aload_n hC dX4_makeCommitted_0 rfl 1 rfl ?_
  refine go_iconst hC dX4_makeCommitted_1 (v := (2 : Int32)) (by decide +kernel) ?_
  obtain ⟨h1, h⟩ := os_1 h
  refine go_putV 2 hC h1 rfl rfl (C := RX3) (T := TX3) (N := 16) rfl inlX3 tyX3 tyX3_ok nmX3 (by decide) m_277 (Or.inl rfl) (Or.inl rfl) (tyX3_ok 2 (by decide)) rfl rfl dX4_makeCommitted_2 ?_
  refine go_aload_n hC dX4_makeCommitted_5 rfl 1 rfl ?_
  refine go_aload_n hC dX4_makeCommitted_6 rfl 0 rfl ?_
  obtain ⟨h2, h⟩ := os_1 h
  obtain ⟨b3, h4, h⟩ := os_b h
  refine go_getR 0 hC h2 rfl rfl h4 (C := RX4) (T := TX4) (N := 7) rfl inlX4 (by decide) m_14 (Or.inl rfl) dX4_makeCommitted_7 ?_
  refine go_aload_n hC dX4_makeCommitted_10 rfl 1 rfl ?_
  obtain ⟨h5, h⟩ := os_1 h
  refine go_getV 1 hC h5 rfl rfl (C := RX3) (T := TX3) (N := 16) rfl inlX3 (by decide) m_265 (Or.inl rfl) dX4_makeCommitted_11 ?_
  obtain ⟨h6, h⟩ := os_1 h
  obtain ⟨b8, h7, h⟩ := os_b h
  refine go_aald hC h6.1 h6.2 h7 dX4_makeCommitted_14 ?_
  obtain ⟨h9, h⟩ := os_1 h
  obtain ⟨b10, h11, h⟩ := os_b h
  refine go_getR 1 hC h9 rfl rfl h11 (C := RX2) (T := TX2) (N := 5) rfl inlX2 (by decide) m_146 (Or.inl rfl) dX4_makeCommitted_15 ?_
  refine go_aload_n hC dX4_makeCommitted_18 rfl 1 rfl ?_
  obtain ⟨h12, h⟩ := os_1 h
  refine go_getV 1 hC h12 rfl rfl (C := RX3) (T := TX3) (N := 16) rfl inlX3 (by decide) m_265 (Or.inl rfl) dX4_makeCommitted_19 ?_
  obtain ⟨h13, h⟩ := os_1 h
  refine go_iald hC h13.1 h13.2 dX4_makeCommitted_22 ?_
  refine go_iconst hC dX4_makeCommitted_23 (v := (1 : Int32)) (by decide +kernel) ?_
  refine go_iadd hC dX4_makeCommitted_24 ?_
  obtain ⟨h14, h⟩ := os_1 h
  refine go_putV 3 hC h14 rfl rfl (C := RX3) (T := TX3) (N := 16) rfl inlX3 tyX3 tyX3_ok nmX3 (by decide) m_418 (Or.inl rfl) (Or.inl rfl) (tyX3_ok 3 (by decide)) rfl rfl dX4_makeCommitted_25 ?_
  obtain ⟨M15, e16, h⟩ := os_l h
  refine go_eq (pc' := 28) (st' := []) (M' := M15) (lv' := [(0, .ref v0), (1, .ref v1)]) ?_ rfl rfl rfl e16
  refine go_aload_n hC dX4_makeCommitted_28 rfl 0 rfl ?_
  refine go_aload_n hC dX4_makeCommitted_29 rfl 1 rfl ?_
  refine go_aload_n hC dX4_makeCommitted_30 rfl 1 rfl ?_
  obtain ⟨h17, h⟩ := os_1 h
  refine go_getV 1 hC h17 rfl rfl (C := RX3) (T := TX3) (N := 16) rfl inlX3 (by decide) m_265 (Or.inl rfl) dX4_makeCommitted_31 ?_
  obtain ⟨h21, h⟩ := os_1 h
  obtain ⟨r18, M19, h20, h⟩ := os_c h
  refine go_callV (bytes := cX4_applyAt) (maxL := 3) (ret := none) (n := 2) (As := [.ref v1, .int (mV M15 v1 1)]) (st := []) hE (c_X4_applyAt K.2.1 h20) (by unfold okY; decide +kernel) rfl h21 rfl (C := RX4) (T := TX4) (N := 7) rfl m_422 m_419 m_420 m_421 m_2 rfl (by simp [Value.category]) (by decide) (by decide) dX4_makeCommitted_34 ?_
  refine go_eq (pc' := 37) (st' := []) (M' := M19) (lv' := [(0, .ref v0), (1, .ref v1)]) ?_ rfl rfl rfl rfl
  refine go_aload_n hC dX4_makeCommitted_37 rfl 0 rfl ?_
  refine go_iconst hC dX4_makeCommitted_38 (v := (5 : Int32)) (by decide +kernel) ?_
  refine go_aload_n hC dX4_makeCommitted_39 rfl 1 rfl ?_
  refine go_aload_n hC dX4_makeCommitted_40 rfl 0 rfl ?_
  obtain ⟨h25, h⟩ := os_1 h
  obtain ⟨r22, M23, h24, h⟩ := os_c h
  refine go_callV (bytes := cX4_allSites) (maxL := 1) (ret := (some .int)) (n := 0) (As := []) (st := [.ref v1, .int (5 : Int32), .ref v0]) hE (c_X4_allSites K.2.1 h24) (by unfold okY; decide +kernel) rfl h25 rfl (C := RX4) (T := TX4) (N := 7) rfl m_438 m_435 m_436 m_437 m_2 rfl (by simp [Value.category]) (by decide) (by decide) dX4_makeCommitted_41 ?_
  refine go_eq (pc' := 44) (st' := [.int r22, .ref v1, .int (5 : Int32), .ref v0]) (M' := M23) (lv' := [(0, .ref v0), (1, .ref v1)]) ?_ rfl rfl rfl rfl
  refine go_aload_n hC dX4_makeCommitted_44 rfl 1 rfl ?_
  obtain ⟨h26, h⟩ := os_1 h
  refine go_getV 1 hC h26 rfl rfl (C := RX3) (T := TX3) (N := 16) rfl inlX3 (by decide) m_265 (Or.inl rfl) dX4_makeCommitted_45 ?_
  obtain ⟨r27, M28, h29, h⟩ := os_c h
  refine go_callS (bytes := cX4_bit) (maxL := 1) (ret := (some .int)) (n := 1) (As := [.int (mV M23 v1 1)]) (st := [.int r22, .ref v1, .int (5 : Int32), .ref v0]) hE (c_X4_bit K.2.1 h29) (by unfold okY; decide +kernel) rfl m_399 m_397 m_398 m_2 rfl (by simp [Value.category]) (by decide) (by decide) dX4_makeCommitted_48 ?_
  refine go_eq (pc' := 51) (st' := [.int r27, .int r22, .ref v1, .int (5 : Int32), .ref v0]) (M' := M28) (lv' := [(0, .ref v0), (1, .ref v1)]) ?_ rfl rfl rfl rfl
  refine go_iconst hC dX4_makeCommitted_51 (v := (-1 : Int32)) (by decide +kernel) ?_
  refine go_ixor hC dX4_makeCommitted_52 ?_
  refine go_iand hC dX4_makeCommitted_53 ?_
  obtain ⟨h34, h⟩ := os_1 h
  obtain ⟨r31, M32, h33, h⟩ := os_c h
  refine go_callV (bytes := cX4_sendToAll) (maxL := 5) (ret := (some .int)) (n := 3) (As := [.int (5 : Int32), .ref v1, .int (r22 &&& (r27 ^^^ (-1 : Int32)))]) (st := []) hE (c_X4_sendToAll K.2.1 h33) (by unfold okY; decide +kernel) rfl h34 rfl (C := RX4) (T := TX4) (N := 7) rfl m_442 m_439 m_440 m_441 m_2 rfl (by simp [Value.category]) (by decide) (by decide) dX4_makeCommitted_54 ?_
  refine go_eq (pc' := 57) (st' := [.int r31]) (M' := M32) (lv' := [(0, .ref v0), (1, .ref v1)]) ?_ rfl rfl rfl rfl
  refine go_pop hC dX4_makeCommitted_57 rfl ?_
  cases h
  exact go_vret hE dX4_makeCommitted_58
theorem c_X4_makeCommitted (l : Launch) {x9 : Cx} {k9 : Nat} {M M9 : Mm} {r9 : Unit} {v0 : Nat} {v1 : Nat} (h : fX4_makeCommitted x9 k9 v0 v1 M = some (r9, M9)) : Fn l x9 yX4_makeCommitted cX4_makeCommitted 2 none 9 219 [.ref v0, .ref v1] M none M9 :=
  Fn.of (by decide +kernel) (Nat.le_of_ble_eq_true rfl) rfl (fun K _ hE => tX4_makeCommitted_0 hE _ _ _ h)
/-! X4_giveUpLocks -/
def fX4_giveUpLocks (x9 : Cx) (k9 : Nat) (v0 : Nat) (v1 : Nat) (M : Mm) : Option (Unit × Mm) :=
  if mK M v0 = 5 then ob1 (mP M v0 0) (fun b2 => if mK M v1 = 4 then if (mK M b2 = 10 ∨ mK M b2 = 11) ∧ ¬ ((mV M v1 1) < 0 ∨ mN M b2 ≤ ((mV M v1 1)).toNatClampNeg) then ob1 (mP M b2 ((mV M v1 1)).toNatClampNeg) (fun b7 => if mK M v1 = 4 then if mK M b7 = 3 then ob2 (fX2_unlock x9 k9 b7 (mV M v1 0) M) (fun r9 M10 => if mK M10 v1 = 4 then if mK M10 v0 = 5 then ob2 (fX4_sendToAll x9 k9 v0 (4 : Int32) v1 (mV M10 v1 10) M10) (fun r14 M15 => some ((), M15)) else none else none) else none else none) else none else none) else none
set_option maxRecDepth 100000 in
set_option maxHeartbeats 4000000 in
theorem tX4_giveUpLocks_0 {x9 : Cx} {K : Ct} {k9 : Nat} {M0 M9 : Mm} {r9 : Unit} (hE : Ce x9 K RX4 cX4_giveUpLocks 2 none 9 219 "giveUpLocks" M0) (v0 : Nat) (v1 : Nat) (M : Mm) (h : fX4_giveUpLocks x9 k9 v0 v1 M = some (r9, M9)) : Go x9 K 2 (Qf x9 K M0 none M9) 0 [(0, .ref v0), (1, .ref v1)] [] M := by
  have hC := hE.1
  have hnm := hE.2.2.2.2.2.2.2.1
  unfold fX4_giveUpLocks at h
  refine go_aload_n hC dX4_giveUpLocks_0 rfl 0 rfl ?_
  obtain ⟨h1, h⟩ := os_1 h
  obtain ⟨b2, h3, h⟩ := os_b h
  refine go_getR 0 hC h1 rfl rfl h3 (C := RX4) (T := TX4) (N := 7) rfl inlX4 (by decide) m_14 (Or.inl rfl) dX4_giveUpLocks_1 ?_
  refine go_aload_n hC dX4_giveUpLocks_4 rfl 1 rfl ?_
  obtain ⟨h4, h⟩ := os_1 h
  refine go_getV 1 hC h4 rfl rfl (C := RX3) (T := TX3) (N := 16) rfl inlX3 (by decide) m_265 (Or.inl rfl) dX4_giveUpLocks_5 ?_
  obtain ⟨h5, h⟩ := os_1 h
  obtain ⟨b7, h6, h⟩ := os_b h
  refine go_aald hC h5.1 h5.2 h6 dX4_giveUpLocks_8 ?_
  refine go_aload_n hC dX4_giveUpLocks_9 rfl 1 rfl ?_
  obtain ⟨h8, h⟩ := os_1 h
  refine go_getV 0 hC h8 rfl rfl (C := RX3) (T := TX3) (N := 16) rfl inlX3 (by decide) m_413 (Or.inl rfl) dX4_giveUpLocks_10 ?_
  obtain ⟨h12, h⟩ := os_1 h
  obtain ⟨r9, M10, h11, h⟩ := os_c h
  refine go_callV (bytes := cX2_unlock) (maxL := 3) (ret := none) (n := 1) (As := [.int (mV M v1 0)]) (st := []) hE (c_X2_unlock K.2.1 h11) (by unfold okY; decide +kernel) rfl h12 rfl (C := RX2) (T := TX2) (N := 5) rfl m_434 m_589 m_432 m_433 m_16 rfl (by simp [Value.category]) (by decide) (by decide) dX4_giveUpLocks_13 ?_
  refine go_eq (pc' := 16) (st' := []) (M' := M10) (lv' := [(0, .ref v0), (1, .ref v1)]) ?_ rfl rfl rfl rfl
  refine go_aload_n hC dX4_giveUpLocks_16 rfl 0 rfl ?_
  refine go_iconst hC dX4_giveUpLocks_17 (v := (4 : Int32)) (by decide +kernel) ?_
  refine go_aload_n hC dX4_giveUpLocks_18 rfl 1 rfl ?_
  refine go_aload_n hC dX4_giveUpLocks_19 rfl 1 rfl ?_
  obtain ⟨h13, h⟩ := os_1 h
  refine go_getV 10 hC h13 rfl rfl (C := RX3) (T := TX3) (N := 16) rfl inlX3 (by decide) m_471 (Or.inl rfl) dX4_giveUpLocks_20 ?_
  obtain ⟨h17, h⟩ := os_1 h
  obtain ⟨r14, M15, h16, h⟩ := os_c h
  refine go_callV (bytes := cX4_sendToAll) (maxL := 5) (ret := (some .int)) (n := 3) (As := [.int (4 : Int32), .ref v1, .int (mV M10 v1 10)]) (st := []) hE (c_X4_sendToAll K.2.1 h16) (by unfold okY; decide +kernel) rfl h17 rfl (C := RX4) (T := TX4) (N := 7) rfl m_442 m_439 m_440 m_441 m_2 rfl (by simp [Value.category]) (by decide) (by decide) dX4_giveUpLocks_23 ?_
  refine go_eq (pc' := 26) (st' := [.int r14]) (M' := M15) (lv' := [(0, .ref v0), (1, .ref v1)]) ?_ rfl rfl rfl rfl
  refine go_pop hC dX4_giveUpLocks_26 rfl ?_
  cases h
  exact go_vret hE dX4_giveUpLocks_27
theorem c_X4_giveUpLocks (l : Launch) {x9 : Cx} {k9 : Nat} {M M9 : Mm} {r9 : Unit} {v0 : Nat} {v1 : Nat} (h : fX4_giveUpLocks x9 k9 v0 v1 M = some (r9, M9)) : Fn l x9 yX4_giveUpLocks cX4_giveUpLocks 2 none 9 219 [.ref v0, .ref v1] M none M9 :=
  Fn.of (by decide +kernel) (Nat.le_of_ble_eq_true rfl) rfl (fun K _ hE => tX4_giveUpLocks_0 hE _ _ _ h)
/-! X4_takeYes -/
def fX4_takeYes (x9 : Cx) (k9 : Nat) (v0 : Nat) (v1 : Nat) (v2 : Int32) (M : Mm) : Option (Int32 × Mm) :=
  if mK M v1 = 4 then if (mV M v1 2) = (1 : Int32) then if mK M v1 = 4 then ob2 (fX4_bit x9 k9 v2 M) (fun r4 M5 => if mK M5 v1 = 4 then if mK (sV M5 v1 11 ((mV M v1 11) ||| r4)) v1 = 4 then if mK (sV M5 v1 11 ((mV M v1 11) ||| r4)) v1 = 4 then if (mV (sV M5 v1 11 ((mV M v1 11) ||| r4)) v1 11) = (mV (sV M5 v1 11 ((mV M v1 11) ||| r4)) v1 10) then if mK (sV M5 v1 11 ((mV M v1 11) ||| r4)) v0 = 5 then ob2 (fX4_makeCommitted x9 k9 v0 v1 (sV M5 v1 11 ((mV M v1 11) ||| r4))) (fun r12 M13 => some ((1 : Int32), M13)) else none else some ((0 : Int32), (sV M5 v1 11 ((mV M v1 11) ||| r4))) else none else none else none) else none else some ((0 : Int32), M) else none
set_option maxRecDepth 100000 in
set_option maxHeartbeats 4000000 in
theorem tX4_takeYes_0 {x9 : Cx} {K : Ct} {k9 : Nat} {M0 M9 : Mm} {r9 : Int32} (hE : Ce x9 K RX4 cX4_takeYes 3 (some .int) 10 240 "takeYes" M0) (v0 : Nat) (v1 : Nat) (v2 : Int32) (M : Mm) (h : fX4_takeYes x9 k9 v0 v1 v2 M = some (r9, M9)) : Go x9 K 3 (Qf x9 K M0 (some (.int r9)) M9) 0 [(0, .ref v0), (1, .ref v1), (2, .int v2)] [] M := by
  have hC := hE.1
  have hnm := hE.2.2.2.2.2.2.2.1
  unfold fX4_takeYes at h
  refine go_aload_n hC dX4_takeYes_0 rfl 1 rfl ?_
  obtain ⟨h1, h⟩ := os_1 h
  refine go_getV 2 hC h1 rfl rfl (C := RX3) (T := TX3) (N := 16) rfl inlX3 (by decide) m_277 (Or.inl rfl) dX4_takeYes_1 ?_
  refine go_iconst hC dX4_takeYes_4 (v := (1 : Int32)) (by decide +kernel) ?_
  refine go_icmp_eq (t := 10) hC dX4_takeYes_5 (by decide) (fun c2 => ?_) (fun c2 => ?_)
  · have h := os_t h c2
    refine go_aload_n hC dX4_takeYes_10 rfl 1 rfl ?_
    refine go_dup hC dX4_takeYes_11 rfl ?_
    obtain ⟨h3, h⟩ := os_1 h
    refine go_getV 11 hC h3 rfl rfl (C := RX3) (T := TX3) (N := 16) rfl inlX3 (by decide) m_526 (Or.inl rfl) dX4_takeYes_12 ?_
    refine go_iload_n hC dX4_takeYes_15 rfl 2 rfl ?_
    obtain ⟨r4, M5, h6, h⟩ := os_c h
    refine go_callS (bytes := cX4_bit) (maxL := 1) (ret := (some .int)) (n := 1) (As := [.int v2]) (st := [.int (mV M v1 11), .ref v1]) hE (c_X4_bit K.2.1 h6) (by unfold okY; decide +kernel) rfl m_399 m_397 m_398 m_2 rfl (by simp [Value.category]) (by decide) (by decide) dX4_takeYes_16 ?_
    refine go_eq (pc' := 19) (st' := [.int r4, .int (mV M v1 11), .ref v1]) (M' := M5) (lv' := [(0, .ref v0), (1, .ref v1), (2, .int v2)]) ?_ rfl rfl rfl rfl
    refine go_ior hC dX4_takeYes_19 ?_
    obtain ⟨h8, h⟩ := os_1 h
    refine go_putV 11 hC h8 rfl rfl (C := RX3) (T := TX3) (N := 16) rfl inlX3 tyX3 tyX3_ok nmX3 (by decide) m_526 (Or.inl rfl) (Or.inl rfl) (tyX3_ok 11 (by decide)) rfl rfl dX4_takeYes_20 ?_
    refine go_aload_n hC dX4_takeYes_23 rfl 1 rfl ?_
    obtain ⟨h9, h⟩ := os_1 h
    refine go_getV 11 hC h9 rfl rfl (C := RX3) (T := TX3) (N := 16) rfl inlX3 (by decide) m_526 (Or.inl rfl) dX4_takeYes_24 ?_
    refine go_aload_n hC dX4_takeYes_27 rfl 1 rfl ?_
    obtain ⟨h10, h⟩ := os_1 h
    refine go_getV 10 hC h10 rfl rfl (C := RX3) (T := TX3) (N := 16) rfl inlX3 (by decide) m_471 (Or.inl rfl) dX4_takeYes_28 ?_
    refine go_icmp_eq (t := 36) hC dX4_takeYes_31 (by decide) (fun c11 => ?_) (fun c11 => ?_)
    · have h := os_t h c11
      refine go_aload_n hC dX4_takeYes_36 rfl 0 rfl ?_
      refine go_aload_n hC dX4_takeYes_37 rfl 1 rfl ?_
      obtain ⟨h15, h⟩ := os_1 h
      obtain ⟨r12, M13, h14, h⟩ := os_c h
      refine go_callV (bytes := cX4_makeCommitted) (maxL := 2) (ret := none) (n := 1) (As := [.ref v1]) (st := []) hE (c_X4_makeCommitted K.2.1 h14) (by unfold okY; decide +kernel) rfl h15 rfl (C := RX4) (T := TX4) (N := 7) rfl m_417 m_414 m_415 m_416 m_2 rfl (by simp [Value.category]) (by decide) (by decide) dX4_takeYes_38 ?_
      refine go_eq (pc' := 41) (st' := []) (M' := M13) (lv' := [(0, .ref v0), (1, .ref v1), (2, .int v2)]) ?_ rfl rfl rfl rfl
      refine go_iconst hC dX4_takeYes_41 (v := (1 : Int32)) (by decide +kernel) ?_
      cases h
      exact go_iret hE dX4_takeYes_42
    · have h := os_f h c11
      refine go_iconst hC dX4_takeYes_34 (v := (0 : Int32)) (by decide +kernel) ?_
      cases h
      exact go_iret hE dX4_takeYes_35
  · have h := os_f h c2
    refine go_iconst hC dX4_takeYes_8 (v := (0 : Int32)) (by decide +kernel) ?_
    cases h
    exact go_iret hE dX4_takeYes_9
theorem c_X4_takeYes (l : Launch) {x9 : Cx} {k9 : Nat} {M M9 : Mm} {r9 : Int32} {v0 : Nat} {v1 : Nat} {v2 : Int32} (h : fX4_takeYes x9 k9 v0 v1 v2 M = some (r9, M9)) : Fn l x9 yX4_takeYes cX4_takeYes 3 (some .int) 10 240 [.ref v0, .ref v1, .int v2] M (some (.int r9)) M9 :=
  Fn.of (by decide +kernel) (Nat.le_of_ble_eq_true rfl) rfl (fun K _ hE => tX4_takeYes_0 hE _ _ _ _ h)
/-! X4_takeNo -/
def fX4_takeNo_18 (x9 : Cx) (k9 : Nat) (M : Mm) : Option (Unit × Mm) :=
  some ((), M)
set_option maxRecDepth 100000 in
set_option maxHeartbeats 4000000 in
theorem tX4_takeNo_18 {x9 : Cx} {K : Ct} {k9 : Nat} {M0 M9 : Mm} {r9 : Unit} (hE : Ce x9 K RX4 cX4_takeNo 2 none 10 240 "takeNo" M0) (M : Mm) (h : fX4_takeNo_18 x9 k9 M = some (r9, M9)) : Go x9 K 2 (Qf x9 K M0 none M9) 18 [] [] M := by
  have hC := hE.1
  have hnm := hE.2.2.2.2.2.2.2.1
  unfold fX4_takeNo_18 at h
  cases h
  exact go_vret hE dX4_takeNo_18
def fX4_takeNo (x9 : Cx) (k9 : Nat) (v0 : Nat) (v1 : Nat) (M : Mm) : Option (Unit × Mm) :=
  if mK M v1 = 4 then if (mV M v1 2) = (1 : Int32) then if mK M v1 = 4 then if mK (sV M v1 2 (3 : Int32)) v0 = 5 then ob2 (fX4_giveUpLocks x9 k9 v0 v1 (sV M v1 2 (3 : Int32))) (fun r4 M5 => fX4_takeNo_18 x9 k9 M5) else none else none else fX4_takeNo_18 x9 k9 M else none
set_option maxRecDepth 100000 in
set_option maxHeartbeats 4000000 in
theorem tX4_takeNo_0 {x9 : Cx} {K : Ct} {k9 : Nat} {M0 M9 : Mm} {r9 : Unit} (hE : Ce x9 K RX4 cX4_takeNo 2 none 10 240 "takeNo" M0) (v0 : Nat) (v1 : Nat) (M : Mm) (h : fX4_takeNo x9 k9 v0 v1 M = some (r9, M9)) : Go x9 K 2 (Qf x9 K M0 none M9) 0 [(0, .ref v0), (1, .ref v1)] [] M := by
  have hC := hE.1
  have hnm := hE.2.2.2.2.2.2.2.1
  unfold fX4_takeNo at h
  refine go_aload_n hC dX4_takeNo_0 rfl 1 rfl ?_
  obtain ⟨h1, h⟩ := os_1 h
  refine go_getV 2 hC h1 rfl rfl (C := RX3) (T := TX3) (N := 16) rfl inlX3 (by decide) m_277 (Or.inl rfl) dX4_takeNo_1 ?_
  refine go_iconst hC dX4_takeNo_4 (v := (1 : Int32)) (by decide +kernel) ?_
  refine go_icmp_ne (t := 18) hC dX4_takeNo_5 (by decide) (fun c2 => ?_) (fun c2 => ?_)
  · have h := os_f h c2
    refine go_sub (lv' := []) [] rfl ?_
    exact tX4_takeNo_18 hE _ h
  · have h := os_t h c2
    refine go_aload_n hC dX4_takeNo_8 rfl 1 rfl ?_
    refine go_iconst hC dX4_takeNo_9 (v := (3 : Int32)) (by decide +kernel) ?_
    obtain ⟨h3, h⟩ := os_1 h
    refine go_putV 2 hC h3 rfl rfl (C := RX3) (T := TX3) (N := 16) rfl inlX3 tyX3 tyX3_ok nmX3 (by decide) m_277 (Or.inl rfl) (Or.inl rfl) (tyX3_ok 2 (by decide)) rfl rfl dX4_takeNo_10 ?_
    refine go_aload_n hC dX4_takeNo_13 rfl 0 rfl ?_
    refine go_aload_n hC dX4_takeNo_14 rfl 1 rfl ?_
    obtain ⟨h7, h⟩ := os_1 h
    obtain ⟨r4, M5, h6, h⟩ := os_c h
    refine go_callV (bytes := cX4_giveUpLocks) (maxL := 2) (ret := none) (n := 1) (As := [.ref v1]) (st := []) hE (c_X4_giveUpLocks K.2.1 h6) (by unfold okY; decide +kernel) rfl h7 rfl (C := RX4) (T := TX4) (N := 7) rfl m_588 m_585 m_586 m_587 m_2 rfl (by simp [Value.category]) (by decide) (by decide) dX4_takeNo_15 ?_
    refine go_eq (pc' := 18) (st' := []) (M' := M5) (lv' := [(0, .ref v0), (1, .ref v1)]) ?_ rfl rfl rfl rfl
    refine go_sub (lv' := []) [] rfl ?_
    exact tX4_takeNo_18 hE _ h
theorem c_X4_takeNo (l : Launch) {x9 : Cx} {k9 : Nat} {M M9 : Mm} {r9 : Unit} {v0 : Nat} {v1 : Nat} (h : fX4_takeNo x9 k9 v0 v1 M = some (r9, M9)) : Fn l x9 yX4_takeNo cX4_takeNo 2 none 10 240 [.ref v0, .ref v1] M none M9 :=
  Fn.of (by decide +kernel) (Nat.le_of_ble_eq_true rfl) rfl (fun K _ hE => tX4_takeNo_0 hE _ _ _ h)
/-! X4_handOver -/
def fX4_handOver (x9 : Cx) (k9 : Nat) (v0 : Nat) (v1 : Nat) (v2 : Nat) (M : Mm) : Option (Int32 × Mm) :=
  if mK M v1 = 2 then ob2 (fX1_kind x9 k9 v1 M) (fun r1 M2 => if r1 = (1 : Int32) then if mK M2 v1 = 2 then ob2 (fX1_to x9 k9 v1 M2) (fun r6 M7 => if mK M7 v0 = 5 then ob2 (fX4_takeAsk x9 k9 v0 v2 r6 M7) (fun r10 M11 => some ((0 : Int32), M11)) else none) else none else if r1 = (2 : Int32) then if mK M2 v1 = 2 then ob2 (fX1_from x9 k9 v1 M2) (fun r15 M16 => if mK M16 v0 = 5 then ob2 (fX4_takeYes x9 k9 v0 v2 r15 M16) (fun r19 M20 => some (r19, M20)) else none) else none else if r1 = (3 : Int32) then if mK M2 v0 = 5 then ob2 (fX4_takeNo x9 k9 v0 v2 M2) (fun r24 M25 => some ((0 : Int32), M25)) else none else if r1 = (4 : Int32) then if mK M2 v1 = 2 then ob2 (fX1_to x9 k9 v1 M2) (fun r29 M30 => if mK M30 v0 = 5 then ob2 (fX4_takeFree x9 k9 v0 v2 r29 M30) (fun r33 M34 => some ((0 : Int32), M34)) else none) else none else if mK M2 v1 = 2 then ob2 (fX1_to x9 k9 v1 M2) (fun r37 M38 => if mK M38 v0 = 5 then ob2 (fX4_takeTell x9 k9 v0 v2 r37 M38) (fun r41 M42 => some (r41, M42)) else none) else none) else none
set_option maxRecDepth 100000 in
set_option maxHeartbeats 4000000 in
theorem tX4_handOver_0 {x9 : Cx} {K : Ct} {k9 : Nat} {M0 M9 : Mm} {r9 : Int32} (hE : Ce x9 K RX4 cX4_handOver 3 (some .int) 11 262 "handOver" M0) (v0 : Nat) (v1 : Nat) (v2 : Nat) (M : Mm) (h : fX4_handOver x9 k9 v0 v1 v2 M = some (r9, M9)) : Go x9 K 3 (Qf x9 K M0 (some (.int r9)) M9) 0 [(0, .ref v0), (1, .ref v1), (2, .ref v2)] [] M := by
  have hC := hE.1
  have hnm := hE.2.2.2.2.2.2.2.1
  unfold fX4_handOver at h
  refine go_aload_n hC dX4_handOver_0 rfl 1 rfl ?_
  obtain ⟨h4, h⟩ := os_1 h
  obtain ⟨r1, M2, h3, h⟩ := os_c h
  refine go_callV (bytes := cX1_kind) (maxL := 1) (ret := (some .int)) (n := 0) (As := []) (st := []) hE (c_X1_kind K.2.1 h3) (by unfold okY; decide +kernel) rfl h4 rfl (C := RX1) (T := TX1) (N := 4) rfl m_567 m_564 m_565 m_566 m_450 rfl (by simp [Value.category]) (by decide) (by decide) dX4_handOver_1 ?_
  refine go_eq (pc' := 4) (st' := [.int r1]) (M' := M2) (lv' := [(0, .ref v0), (1, .ref v1), (2, .ref v2)]) ?_ rfl rfl rfl rfl
  by_cases c5 : r1 = (1 : Int32)
  · have h := os_t h c5
    refine go_tabIn (a := r1) (off := 32) (t := 36) hC dX4_handOver_4 (by rw [c5]; decide +kernel) (by rw [c5]; decide +kernel) (by rw [c5]; decide +kernel) (by decide) ?_
    refine go_aload_n hC dX4_handOver_36 rfl 0 rfl ?_
    refine go_aload_n hC dX4_handOver_37 rfl 2 rfl ?_
    refine go_aload_n hC dX4_handOver_38 rfl 1 rfl ?_
    obtain ⟨h9, h⟩ := os_1 h
    obtain ⟨r6, M7, h8, h⟩ := os_c h
    refine go_callV (bytes := cX1_to) (maxL := 1) (ret := (some .int)) (n := 0) (As := []) (st := [.ref v2, .ref v0]) hE (c_X1_to K.2.1 h8) (by unfold okY; decide +kernel) rfl h9 rfl (C := RX1) (T := TX1) (N := 4) rfl m_555 m_552 m_553 m_554 m_450 rfl (by simp [Value.category]) (by decide) (by decide) dX4_handOver_39 ?_
    refine go_eq (pc' := 42) (st' := [.int r6, .ref v2, .ref v0]) (M' := M7) (lv' := [(0, .ref v0), (1, .ref v1), (2, .ref v2)]) ?_ rfl rfl rfl rfl
    obtain ⟨h13, h⟩ := os_1 h
    obtain ⟨r10, M11, h12, h⟩ := os_c h
    refine go_callV (bytes := cX4_takeAsk) (maxL := 3) (ret := none) (n := 2) (As := [.ref v2, .int r6]) (st := []) hE (c_X4_takeAsk K.2.1 h12) (by unfold okY; decide +kernel) rfl h13 rfl (C := RX4) (T := TX4) (N := 7) rfl m_571 m_568 m_569 m_570 m_2 rfl (by simp [Value.category]) (by decide) (by decide) dX4_handOver_42 ?_
    refine go_eq (pc' := 45) (st' := []) (M' := M11) (lv' := [(0, .ref v0), (1, .ref v1), (2, .ref v2)]) ?_ rfl rfl rfl rfl
    refine go_iconst hC dX4_handOver_45 (v := (0 : Int32)) (by decide +kernel) ?_
    cases h
    exact go_iret hE dX4_handOver_46
  have h := os_f h c5
  by_cases c14 : r1 = (2 : Int32)
  · have h := os_t h c14
    refine go_tabIn (a := r1) (off := 43) (t := 47) hC dX4_handOver_4 (by rw [c14]; decide +kernel) (by rw [c14]; decide +kernel) (by rw [c14]; decide +kernel) (by decide) ?_
    refine go_aload_n hC dX4_handOver_47 rfl 0 rfl ?_
    refine go_aload_n hC dX4_handOver_48 rfl 2 rfl ?_
    refine go_aload_n hC dX4_handOver_49 rfl 1 rfl ?_
    obtain ⟨h18, h⟩ := os_1 h
    obtain ⟨r15, M16, h17, h⟩ := os_c h
    refine go_callV (bytes := cX1_from) (maxL := 1) (ret := (some .int)) (n := 0) (As := []) (st := [.ref v2, .ref v0]) hE (c_X1_from K.2.1 h17) (by unfold okY; decide +kernel) rfl h18 rfl (C := RX1) (T := TX1) (N := 4) rfl m_576 m_573 m_574 m_575 m_450 rfl (by simp [Value.category]) (by decide) (by decide) dX4_handOver_50 ?_
    refine go_eq (pc' := 53) (st' := [.int r15, .ref v2, .ref v0]) (M' := M16) (lv' := [(0, .ref v0), (1, .ref v1), (2, .ref v2)]) ?_ rfl rfl rfl rfl
    obtain ⟨h22, h⟩ := os_1 h
    obtain ⟨r19, M20, h21, h⟩ := os_c h
    refine go_callV (bytes := cX4_takeYes) (maxL := 3) (ret := (some .int)) (n := 2) (As := [.ref v2, .int r15]) (st := []) hE (c_X4_takeYes K.2.1 h21) (by unfold okY; decide +kernel) rfl h22 rfl (C := RX4) (T := TX4) (N := 7) rfl m_580 m_577 m_578 m_579 m_2 rfl (by simp [Value.category]) (by decide) (by decide) dX4_handOver_53 ?_
    refine go_eq (pc' := 56) (st' := [.int r19]) (M' := M20) (lv' := [(0, .ref v0), (1, .ref v1), (2, .ref v2)]) ?_ rfl rfl rfl rfl
    cases h
    exact go_iret hE dX4_handOver_56
  have h := os_f h c14
  by_cases c23 : r1 = (3 : Int32)
  · have h := os_t h c23
    refine go_tabIn (a := r1) (off := 53) (t := 57) hC dX4_handOver_4 (by rw [c23]; decide +kernel) (by rw [c23]; decide +kernel) (by rw [c23]; decide +kernel) (by decide) ?_
    refine go_aload_n hC dX4_handOver_57 rfl 0 rfl ?_
    refine go_aload_n hC dX4_handOver_58 rfl 2 rfl ?_
    obtain ⟨h27, h⟩ := os_1 h
    obtain ⟨r24, M25, h26, h⟩ := os_c h
    refine go_callV (bytes := cX4_takeNo) (maxL := 2) (ret := none) (n := 1) (As := [.ref v2]) (st := []) hE (c_X4_takeNo K.2.1 h26) (by unfold okY; decide +kernel) rfl h27 rfl (C := RX4) (T := TX4) (N := 7) rfl m_584 m_581 m_582 m_583 m_2 rfl (by simp [Value.category]) (by decide) (by decide) dX4_handOver_59 ?_
    refine go_eq (pc' := 62) (st' := []) (M' := M25) (lv' := [(0, .ref v0), (1, .ref v1), (2, .ref v2)]) ?_ rfl rfl rfl rfl
    refine go_iconst hC dX4_handOver_62 (v := (0 : Int32)) (by decide +kernel) ?_
    cases h
    exact go_iret hE dX4_handOver_63
  have h := os_f h c23
  by_cases c28 : r1 = (4 : Int32)
  · have h := os_t h c28
    refine go_tabIn (a := r1) (off := 60) (t := 64) hC dX4_handOver_4 (by rw [c28]; decide +kernel) (by rw [c28]; decide +kernel) (by rw [c28]; decide +kernel) (by decide) ?_
    refine go_aload_n hC dX4_handOver_64 rfl 0 rfl ?_
    refine go_aload_n hC dX4_handOver_65 rfl 2 rfl ?_
    refine go_aload_n hC dX4_handOver_66 rfl 1 rfl ?_
    obtain ⟨h32, h⟩ := os_1 h
    obtain ⟨r29, M30, h31, h⟩ := os_c h
    refine go_callV (bytes := cX1_to) (maxL := 1) (ret := (some .int)) (n := 0) (As := []) (st := [.ref v2, .ref v0]) hE (c_X1_to K.2.1 h31) (by unfold okY; decide +kernel) rfl h32 rfl (C := RX1) (T := TX1) (N := 4) rfl m_555 m_552 m_553 m_554 m_450 rfl (by simp [Value.category]) (by decide) (by decide) dX4_handOver_67 ?_
    refine go_eq (pc' := 70) (st' := [.int r29, .ref v2, .ref v0]) (M' := M30) (lv' := [(0, .ref v0), (1, .ref v1), (2, .ref v2)]) ?_ rfl rfl rfl rfl
    obtain ⟨h36, h⟩ := os_1 h
    obtain ⟨r33, M34, h35, h⟩ := os_c h
    refine go_callV (bytes := cX4_takeFree) (maxL := 3) (ret := none) (n := 2) (As := [.ref v2, .int r29]) (st := []) hE (c_X4_takeFree K.2.1 h35) (by unfold okY; decide +kernel) rfl h36 rfl (C := RX4) (T := TX4) (N := 7) rfl m_593 m_590 m_591 m_592 m_2 rfl (by simp [Value.category]) (by decide) (by decide) dX4_handOver_70 ?_
    refine go_eq (pc' := 73) (st' := []) (M' := M34) (lv' := [(0, .ref v0), (1, .ref v1), (2, .ref v2)]) ?_ rfl rfl rfl rfl
    refine go_iconst hC dX4_handOver_73 (v := (0 : Int32)) (by decide +kernel) ?_
    cases h
    exact go_iret hE dX4_handOver_74
  have h := os_f h c28
  refine go_tabOut (a := r1) (t := 75) hC dX4_handOver_4 (by have z1 := lv_neT c5 (a := 1) (by decide +kernel); have z2 := lv_neT c14 (a := 2) (by decide +kernel); have z3 := lv_neT c23 (a := 3) (by decide +kernel); have z4 := lv_neT c28 (a := 4) (by decide +kernel); omega) (by decide) ?_
  refine go_aload_n hC dX4_handOver_75 rfl 0 rfl ?_
  refine go_aload_n hC dX4_handOver_76 rfl 2 rfl ?_
  refine go_aload_n hC dX4_handOver_77 rfl 1 rfl ?_
  obtain ⟨h40, h⟩ := os_1 h
  obtain ⟨r37, M38, h39, h⟩ := os_c h
  refine go_callV (bytes := cX1_to) (maxL := 1) (ret := (some .int)) (n := 0) (As := []) (st := [.ref v2, .ref v0]) hE (c_X1_to K.2.1 h39) (by unfold okY; decide +kernel) rfl h40 rfl (C := RX1) (T := TX1) (N := 4) rfl m_555 m_552 m_553 m_554 m_450 rfl (by simp [Value.category]) (by decide) (by decide) dX4_handOver_78 ?_
  refine go_eq (pc' := 81) (st' := [.int r37, .ref v2, .ref v0]) (M' := M38) (lv' := [(0, .ref v0), (1, .ref v1), (2, .ref v2)]) ?_ rfl rfl rfl rfl
  obtain ⟨h44, h⟩ := os_1 h
  obtain ⟨r41, M42, h43, h⟩ := os_c h
  refine go_callV (bytes := cX4_takeTell) (maxL := 5) (ret := (some .int)) (n := 2) (As := [.ref v2, .int r37]) (st := []) hE (c_X4_takeTell K.2.1 h43) (by unfold okY; decide +kernel) rfl h44 rfl (C := RX4) (T := TX4) (N := 7) rfl m_597 m_594 m_595 m_596 m_2 rfl (by simp [Value.category]) (by decide) (by decide) dX4_handOver_81 ?_
  refine go_eq (pc' := 84) (st' := [.int r41]) (M' := M42) (lv' := [(0, .ref v0), (1, .ref v1), (2, .ref v2)]) ?_ rfl rfl rfl rfl
  cases h
  exact go_iret hE dX4_handOver_84
theorem c_X4_handOver (l : Launch) {x9 : Cx} {k9 : Nat} {M M9 : Mm} {r9 : Int32} {v0 : Nat} {v1 : Nat} {v2 : Nat} (h : fX4_handOver x9 k9 v0 v1 v2 M = some (r9, M9)) : Fn l x9 yX4_handOver cX4_handOver 3 (some .int) 11 262 [.ref v0, .ref v1, .ref v2] M (some (.int r9)) M9 :=
  Fn.of (by decide +kernel) (Nat.le_of_ble_eq_true rfl) rfl (fun K _ hE => tX4_handOver_0 hE _ _ _ _ h)
