/-! L_law -/
def fL_law_1335 (x9 : Cx) (k9 : Nat) (L9 : Nat) (xs9 : Nat → Int32) (rec23 : Nat → Nat → Nat → Int32 → Mm → Option (Int32 × Mm)) (v1 : Nat) (v2 : Nat) (v3 : Nat) (v4 : Int32) (M : Mm) : Option (Int32 × Mm) :=
  rec23 v1 v2 v3 (v4 + 5) M
set_option maxRecDepth 100000 in
set_option maxHeartbeats 4000000 in
theorem tL_law_1335 {x9 : Cx} {nm9 : String} {scr9 L9 : Nat} {xs9 : Nat → Int32} {K : Ct} {k9 : Nat} {M0 M9 : Mm} {Q9 : State → Prop} (hE : Ce x9 K RL cL_law 7 (some .boolean) 16 626 nm9 M0) (hl : K.2.1.stackTraces = false) (hS : Sc x9 K scr9 L9 xs9) (hfin : ∀ (lv : List (Nat × Value)) (pc : Nat) (M : Mm), decode cL_law pc = .ok (.ireturn, 1) → Go x9 K 7 Q9 pc lv [.int 1] M) {rec23 : Nat → Nat → Nat → Int32 → Mm → Option (Int32 × Mm)} (hrec23 : ∀ (v1 : Nat) (v2 : Nat) (v3 : Nat) (v4 : Int32) (M : Mm), rec23 v1 v2 v3 v4 M = some (1, M9) → Go x9 K 7 Q9 23 [(0, .ref scr9), (1, .ref v1), (2, .ref v2), (3, .ref v3), (4, .int v4)] [] M) (v1 : Nat) (v2 : Nat) (v3 : Nat) (v4 : Int32) (M : Mm) (h : fL_law_1335 x9 k9 L9 xs9 rec23 v1 v2 v3 v4 M = some (1, M9)) : Go x9 K 7 Q9 1335 [(0, .ref scr9), (1, .ref v1), (2, .ref v2), (3, .ref v3), (4, .int v4)] [] M := by
  have hC := hE.1
  have hnm := hE.2.2.2.2.2.2.2.1
  unfold fL_law_1335 at h
  refine go_iinc (q := 4) (v := (v4 + 5)) (lv' := [(4, .int (v4 + 5)), (0, .ref scr9), (1, .ref v1), (2, .ref v2), (3, .ref v3)]) hC dL_law_1335 rfl rfl (by decide) rfl ?_
  refine go_goto (t := 23) hC dL_law_1338 (by decide) ?_
  refine go_sub (lv' := [(0, .ref scr9), (1, .ref v1), (2, .ref v2), (3, .ref v3), (4, .int (v4 + 5))]) [1, 2, 3, 4, 0] rfl ?_
  exact hrec23 _ _ _ _ _ h
def fL_law_132 (x9 : Cx) (k9 : Nat) (L9 : Nat) (xs9 : Nat → Int32) (rec23 : Nat → Nat → Nat → Int32 → Mm → Option (Int32 × Mm)) (v1 : Nat) (v2 : Nat) (v3 : Nat) (v4 : Int32) (M : Mm) : Option (Int32 × Mm) :=
  if ¬ ((v4 + (1 : Int32)) < 0 ∨ L9 ≤ ((v4 + (1 : Int32))).toNatClampNeg) then ob2 (fL_open x9 k9 v1 (xs9 ((v4 + (1 : Int32))).toNatClampNeg) M) (fun r2 M3 => if ¬ ((v4 + (1 : Int32)) < 0 ∨ L9 ≤ ((v4 + (1 : Int32))).toNatClampNeg) then if mK M3 v2 = 6 then ob2 (fX5_open x9 k9 v2 (xs9 ((v4 + (1 : Int32))).toNatClampNeg) M3) (fun r7 M8 => if mK M8 v2 = 6 then ob2 (fX5_thrown x9 k9 v2 M8) (fun r11 M12 => if r11 = r2 then fL_law_1335 x9 k9 L9 xs9 rec23 v1 v2 v3 v4 M12 else some ((0 : Int32), M12)) else none) else none else none) else none
set_option maxRecDepth 100000 in
set_option maxHeartbeats 4000000 in
theorem tL_law_132 {x9 : Cx} {nm9 : String} {scr9 L9 : Nat} {xs9 : Nat → Int32} {K : Ct} {k9 : Nat} {M0 M9 : Mm} {Q9 : State → Prop} (hE : Ce x9 K RL cL_law 7 (some .boolean) 16 626 nm9 M0) (hl : K.2.1.stackTraces = false) (hS : Sc x9 K scr9 L9 xs9) (hfin : ∀ (lv : List (Nat × Value)) (pc : Nat) (M : Mm), decode cL_law pc = .ok (.ireturn, 1) → Go x9 K 7 Q9 pc lv [.int 1] M) {rec23 : Nat → Nat → Nat → Int32 → Mm → Option (Int32 × Mm)} (hrec23 : ∀ (v1 : Nat) (v2 : Nat) (v3 : Nat) (v4 : Int32) (M : Mm), rec23 v1 v2 v3 v4 M = some (1, M9) → Go x9 K 7 Q9 23 [(0, .ref scr9), (1, .ref v1), (2, .ref v2), (3, .ref v3), (4, .int v4)] [] M) (v1 : Nat) (v2 : Nat) (v3 : Nat) (v4 : Int32) (M : Mm) (h : fL_law_132 x9 k9 L9 xs9 rec23 v1 v2 v3 v4 M = some (1, M9)) : Go x9 K 7 Q9 132 [(0, .ref scr9), (1, .ref v1), (2, .ref v2), (3, .ref v3), (4, .int v4)] [] M := by
  have hC := hE.1
  have hnm := hE.2.2.2.2.2.2.2.1
  unfold fL_law_132 at h
  refine go_aload_n hC dL_law_132 rfl 1 rfl ?_
  refine go_aload_n hC dL_law_133 rfl 0 rfl ?_
  refine go_iload hC dL_law_134 4 rfl ?_
  refine go_iconst hC dL_law_136 (v := (1 : Int32)) (by decide +kernel) ?_
  refine go_iadd hC dL_law_137 ?_
  obtain ⟨h1, h⟩ := os_1 h
  refine go_sld hC hS h1 dL_law_138 ?_
  obtain ⟨r2, M3, h4, h⟩ := os_c h
  refine go_callSH (bytes := cL_open) (maxL := 3) (ret := (some .int)) (n := 2) (As := [.ref v1, .int (xs9 ((v4 + (1 : Int32))).toNatClampNeg)]) (st := []) hE (c_L_open K.2.1 hl h4) (by unfold okY; decide +kernel) rfl m_109 m_106 m_107 m_108 rfl (by simp [Value.category]) (by decide) (by decide) dL_law_139 ?_
  refine go_eq (pc' := 142) (st' := [.int r2]) (M' := M3) (lv' := [(0, .ref scr9), (1, .ref v1), (2, .ref v2), (3, .ref v3), (4, .int v4)]) ?_ rfl rfl rfl rfl
  refine go_istore (lv' := [(5, .int r2), (0, .ref scr9), (1, .ref v1), (2, .ref v2), (3, .ref v3), (4, .int v4)]) hC dL_law_142 (by decide) rfl ?_
  refine go_aload_n hC dL_law_144 rfl 3 rfl ?_
  refine go_aload_n hC dL_law_145 rfl 1 rfl ?_
  refine go_iload hC dL_law_146 5 rfl ?_
  refine go_iconst hC dL_law_148 (v := (1 : Int32)) (by decide +kernel) ?_
  refine go_iadd hC dL_law_149 ?_
  obtain ⟨h6, h⟩ := os_1 h
  refine go_sld hC hS h6 dL_law_150 ?_
  obtain ⟨h10, h⟩ := os_1 h
  obtain ⟨r7, M8, h9, h⟩ := os_c h
  refine go_callV (bytes := cX5_open) (maxL := 2) (ret := none) (n := 1) (As := [.int (xs9 ((v4 + (1 : Int32))).toNatClampNeg)]) (st := []) hE (c_X5_open K.2.1 h9) (by unfold okY; decide +kernel) rfl h10 rfl (C := RX5) (T := TX5) (N := 28) rfl m_123 m_120 m_121 m_122 m_5 rfl (by simp [Value.category]) (by decide) (by decide) dL_law_151 ?_
  refine go_eq (pc' := 154) (st' := []) (M' := M8) (lv' := [(5, .int r2), (0, .ref scr9), (1, .ref v1), (2, .ref v2), (3, .ref v3), (4, .int v4)]) ?_ rfl rfl rfl rfl
  refine go_aload_n hC dL_law_154 rfl 3 rfl ?_
  obtain ⟨h14, h⟩ := os_1 h
  obtain ⟨r11, M12, h13, h⟩ := os_c h
  refine go_callV (bytes := cX5_thrown) (maxL := 1) (ret := (some .int)) (n := 0) (As := []) (st := []) hE (c_X5_thrown K.2.1 h13) (by unfold okY; decide +kernel) rfl h14 rfl (C := RX5) (T := TX5) (N := 28) rfl m_132 m_129 m_130 m_131 m_5 rfl (by simp [Value.category]) (by decide) (by decide) dL_law_155 ?_
  refine go_eq (pc' := 158) (st' := [.int r11]) (M' := M12) (lv' := [(5, .int r2), (0, .ref scr9), (1, .ref v1), (2, .ref v2), (3, .ref v3), (4, .int v4)]) ?_ rfl rfl rfl rfl
  refine go_iload hC dL_law_158 0 rfl ?_
  refine go_icmp_eq (t := 165) hC dL_law_160 (by decide) (fun c15 => ?_) (fun c15 => ?_)
  · have h := os_t h c15
    refine go_goto (t := 1335) hC dL_law_165 (by decide) ?_
    refine go_sub (lv' := [(0, .ref scr9), (1, .ref v1), (2, .ref v2), (3, .ref v3), (4, .int v4)]) [1, 2, 3, 4, 5] rfl ?_
    exact tL_law_1335 hE hl hS hfin hrec23 _ _ _ _ _ h
  · have h := os_f h c15
    refine go_iconst hC dL_law_163 (v := (0 : Int32)) (by decide +kernel) ?_
    exact absurd (show (0 : Int32) = 1 from congrArg Prod.fst (Option.some.inj h)) (by decide)
def fL_law_221 (x9 : Cx) (k9 : Nat) (L9 : Nat) (xs9 : Nat → Int32) (rec23 : Nat → Nat → Nat → Int32 → Mm → Option (Int32 × Mm)) (v1 : Nat) (v2 : Nat) (v3 : Nat) (v4 : Int32) (M : Mm) : Option (Int32 × Mm) :=
  fL_law_1335 x9 k9 L9 xs9 rec23 v1 v2 v3 v4 M
set_option maxRecDepth 100000 in
set_option maxHeartbeats 4000000 in
theorem tL_law_221 {x9 : Cx} {nm9 : String} {scr9 L9 : Nat} {xs9 : Nat → Int32} {K : Ct} {k9 : Nat} {M0 M9 : Mm} {Q9 : State → Prop} (hE : Ce x9 K RL cL_law 7 (some .boolean) 16 626 nm9 M0) (hl : K.2.1.stackTraces = false) (hS : Sc x9 K scr9 L9 xs9) (hfin : ∀ (lv : List (Nat × Value)) (pc : Nat) (M : Mm), decode cL_law pc = .ok (.ireturn, 1) → Go x9 K 7 Q9 pc lv [.int 1] M) {rec23 : Nat → Nat → Nat → Int32 → Mm → Option (Int32 × Mm)} (hrec23 : ∀ (v1 : Nat) (v2 : Nat) (v3 : Nat) (v4 : Int32) (M : Mm), rec23 v1 v2 v3 v4 M = some (1, M9) → Go x9 K 7 Q9 23 [(0, .ref scr9), (1, .ref v1), (2, .ref v2), (3, .ref v3), (4, .int v4)] [] M) (v1 : Nat) (v2 : Nat) (v3 : Nat) (v4 : Int32) (M : Mm) (h : fL_law_221 x9 k9 L9 xs9 rec23 v1 v2 v3 v4 M = some (1, M9)) : Go x9 K 7 Q9 221 [(0, .ref scr9), (1, .ref v1), (2, .ref v2), (3, .ref v3), (4, .int v4)] [] M := by
  have hC := hE.1
  have hnm := hE.2.2.2.2.2.2.2.1
  unfold fL_law_221 at h
  refine go_goto (t := 1335) hC dL_law_221 (by decide) ?_
  exact tL_law_1335 hE hl hS hfin hrec23 _ _ _ _ _ h
def fL_law_168 (x9 : Cx) (k9 : Nat) (L9 : Nat) (xs9 : Nat → Int32) (rec23 : Nat → Nat → Nat → Int32 → Mm → Option (Int32 × Mm)) (v1 : Nat) (v2 : Nat) (v3 : Nat) (v4 : Int32) (M : Mm) : Option (Int32 × Mm) :=
  if ¬ ((v4 + (1 : Int32)) < 0 ∨ L9 ≤ ((v4 + (1 : Int32))).toNatClampNeg) then ob2 (fL_begin x9 k9 v1 (xs9 ((v4 + (1 : Int32))).toNatClampNeg) v3 M) (fun r2 M3 => if ¬ ((v4 + (1 : Int32)) < 0 ∨ L9 ≤ ((v4 + (1 : Int32))).toNatClampNeg) then if mK M3 v2 = 6 then ob2 (fX5_begin x9 k9 v2 (xs9 ((v4 + (1 : Int32))).toNatClampNeg) M3) (fun r7 M8 => if mK M8 v2 = 6 then ob2 (fX5_thrown x9 k9 v2 M8) (fun r11 M12 => if r11 = r2 then if r2 = 0 then if mK M12 v3 = 12 ∧ ¬ ((0 : Int32) < 0 ∨ mN M12 v3 ≤ ((0 : Int32)).toNatClampNeg) then if (lg_cmp (mJ M12 v3 ((0 : Int32)).toNatClampNeg) (r7).toInt64) = 0 then fL_law_221 x9 k9 L9 xs9 rec23 v1 v2 v3 v4 M12 else some ((0 : Int32), M12) else none else fL_law_221 x9 k9 L9 xs9 rec23 v1 v2 v3 v4 M12 else some ((0 : Int32), M12)) else none) else none else none) else none
set_option maxRecDepth 100000 in
set_option maxHeartbeats 4000000 in
theorem tL_law_168 {x9 : Cx} {nm9 : String} {scr9 L9 : Nat} {xs9 : Nat → Int32} {K : Ct} {k9 : Nat} {M0 M9 : Mm} {Q9 : State → Prop} (hE : Ce x9 K RL cL_law 7 (some .boolean) 16 626 nm9 M0) (hl : K.2.1.stackTraces = false) (hS : Sc x9 K scr9 L9 xs9) (hfin : ∀ (lv : List (Nat × Value)) (pc : Nat) (M : Mm), decode cL_law pc = .ok (.ireturn, 1) → Go x9 K 7 Q9 pc lv [.int 1] M) {rec23 : Nat → Nat → Nat → Int32 → Mm → Option (Int32 × Mm)} (hrec23 : ∀ (v1 : Nat) (v2 : Nat) (v3 : Nat) (v4 : Int32) (M : Mm), rec23 v1 v2 v3 v4 M = some (1, M9) → Go x9 K 7 Q9 23 [(0, .ref scr9), (1, .ref v1), (2, .ref v2), (3, .ref v3), (4, .int v4)] [] M) (v1 : Nat) (v2 : Nat) (v3 : Nat) (v4 : Int32) (M : Mm) (h : fL_law_168 x9 k9 L9 xs9 rec23 v1 v2 v3 v4 M = some (1, M9)) : Go x9 K 7 Q9 168 [(0, .ref scr9), (1, .ref v1), (2, .ref v2), (3, .ref v3), (4, .int v4)] [] M := by
  have hC := hE.1
  have hnm := hE.2.2.2.2.2.2.2.1
  unfold fL_law_168 at h
  refine go_aload_n hC dL_law_168 rfl 1 rfl ?_
  refine go_aload_n hC dL_law_169 rfl 0 rfl ?_
  refine go_iload hC dL_law_170 4 rfl ?_
  refine go_iconst hC dL_law_172 (v := (1 : Int32)) (by decide +kernel) ?_
  refine go_iadd hC dL_law_173 ?_
  obtain ⟨h1, h⟩ := os_1 h
  refine go_sld hC hS h1 dL_law_174 ?_
  refine go_aload_n hC dL_law_175 rfl 3 rfl ?_
  obtain ⟨r2, M3, h4, h⟩ := os_c h
  refine go_callSH (bytes := cL_begin) (maxL := 4) (ret := (some .int)) (n := 3) (As := [.ref v1, .int (xs9 ((v4 + (1 : Int32))).toNatClampNeg), .ref v3]) (st := []) hE (c_L_begin K.2.1 hl h4) (by unfold okY; decide +kernel) rfl m_135 m_133 m_134 m_108 rfl (by simp [Value.category]) (by decide) (by decide) dL_law_176 ?_
  refine go_eq (pc' := 179) (st' := [.int r2]) (M' := M3) (lv' := [(0, .ref scr9), (1, .ref v1), (2, .ref v2), (3, .ref v3), (4, .int v4)]) ?_ rfl rfl rfl rfl
  refine go_istore (lv' := [(5, .int r2), (0, .ref scr9), (1, .ref v1), (2, .ref v2), (3, .ref v3), (4, .int v4)]) hC dL_law_179 (by decide) rfl ?_
  refine go_aload_n hC dL_law_181 rfl 3 rfl ?_
  refine go_aload_n hC dL_law_182 rfl 1 rfl ?_
  refine go_iload hC dL_law_183 5 rfl ?_
  refine go_iconst hC dL_law_185 (v := (1 : Int32)) (by decide +kernel) ?_
  refine go_iadd hC dL_law_186 ?_
  obtain ⟨h6, h⟩ := os_1 h
  refine go_sld hC hS h6 dL_law_187 ?_
  obtain ⟨h10, h⟩ := os_1 h
  obtain ⟨r7, M8, h9, h⟩ := os_c h
  refine go_callV (bytes := cX5_begin) (maxL := 4) (ret := (some .int)) (n := 1) (As := [.int (xs9 ((v4 + (1 : Int32))).toNatClampNeg)]) (st := []) hE (c_X5_begin K.2.1 h9) (by unfold okY; decide +kernel) rfl h10 rfl (C := RX5) (T := TX5) (N := 28) rfl m_252 m_249 m_250 m_251 m_5 rfl (by simp [Value.category]) (by decide) (by decide) dL_law_188 ?_
  refine go_eq (pc' := 191) (st' := [.int r7]) (M' := M8) (lv' := [(5, .int r2), (0, .ref scr9), (1, .ref v1), (2, .ref v2), (3, .ref v3), (4, .int v4)]) ?_ rfl rfl rfl rfl
  refine go_istore (lv' := [(6, .int r7), (5, .int r2), (0, .ref scr9), (1, .ref v1), (2, .ref v2), (3, .ref v3), (4, .int v4)]) hC dL_law_191 (by decide) rfl ?_
  refine go_aload_n hC dL_law_193 rfl 4 rfl ?_
  obtain ⟨h14, h⟩ := os_1 h
  obtain ⟨r11, M12, h13, h⟩ := os_c h
  refine go_callV (bytes := cX5_thrown) (maxL := 1) (ret := (some .int)) (n := 0) (As := []) (st := []) hE (c_X5_thrown K.2.1 h13) (by unfold okY; decide +kernel) rfl h14 rfl (C := RX5) (T := TX5) (N := 28) rfl m_132 m_129 m_130 m_131 m_5 rfl (by simp [Value.category]) (by decide) (by decide) dL_law_194 ?_
  refine go_eq (pc' := 197) (st' := [.int r11]) (M' := M12) (lv' := [(6, .int r7), (5, .int r2), (0, .ref scr9), (1, .ref v1), (2, .ref v2), (3, .ref v3), (4, .int v4)]) ?_ rfl rfl rfl rfl
  refine go_iload hC dL_law_197 1 rfl ?_
  refine go_icmp_eq (t := 204) hC dL_law_199 (by decide) (fun c15 => ?_) (fun c15 => ?_)
  · have h := os_t h c15
    refine go_iload hC dL_law_204 1 rfl ?_
    refine go_if_ne (t := 221) hC dL_law_206 (by decide) (fun c16 => ?_) (fun c16 => ?_)
    · have h := os_f h c16
      refine go_sub (lv' := [(0, .ref scr9), (1, .ref v1), (2, .ref v2), (3, .ref v3), (4, .int v4)]) [2, 3, 4, 5, 6] rfl ?_
      exact tL_law_221 hE hl hS hfin hrec23 _ _ _ _ _ h
    · have h := os_t h c16
      refine go_aload_n hC dL_law_209 rfl 5 rfl ?_
      refine go_iconst hC dL_law_210 (v := (0 : Int32)) (by decide +kernel) ?_
      obtain ⟨h17, h⟩ := os_1 h
      refine go_lald hC h17.1 h17.2 dL_law_211 ?_
      refine go_iload hC dL_law_212 0 rfl ?_
      refine go_i2l hC dL_law_214 ?_
      refine go_lcmp hC dL_law_215 ?_
      refine go_if_eq (t := 221) hC dL_law_216 (by decide) (fun c18 => ?_) (fun c18 => ?_)
      · have h := os_t h c18
        refine go_sub (lv' := [(0, .ref scr9), (1, .ref v1), (2, .ref v2), (3, .ref v3), (4, .int v4)]) [2, 3, 4, 5, 6] rfl ?_
        exact tL_law_221 hE hl hS hfin hrec23 _ _ _ _ _ h
      · have h := os_f h c18
        refine go_iconst hC dL_law_219 (v := (0 : Int32)) (by decide +kernel) ?_
        exact absurd (show (0 : Int32) = 1 from congrArg Prod.fst (Option.some.inj h)) (by decide)
  · have h := os_f h c15
    refine go_iconst hC dL_law_202 (v := (0 : Int32)) (by decide +kernel) ?_
    exact absurd (show (0 : Int32) = 1 from congrArg Prod.fst (Option.some.inj h)) (by decide)
def fL_law_289 (x9 : Cx) (k9 : Nat) (L9 : Nat) (xs9 : Nat → Int32) (rec23 : Nat → Nat → Nat → Int32 → Mm → Option (Int32 × Mm)) (v1 : Nat) (v2 : Nat) (v3 : Nat) (v4 : Int32) (M : Mm) : Option (Int32 × Mm) :=
  fL_law_1335 x9 k9 L9 xs9 rec23 v1 v2 v3 v4 M
set_option maxRecDepth 100000 in
set_option maxHeartbeats 4000000 in
theorem tL_law_289 {x9 : Cx} {nm9 : String} {scr9 L9 : Nat} {xs9 : Nat → Int32} {K : Ct} {k9 : Nat} {M0 M9 : Mm} {Q9 : State → Prop} (hE : Ce x9 K RL cL_law 7 (some .boolean) 16 626 nm9 M0) (hl : K.2.1.stackTraces = false) (hS : Sc x9 K scr9 L9 xs9) (hfin : ∀ (lv : List (Nat × Value)) (pc : Nat) (M : Mm), decode cL_law pc = .ok (.ireturn, 1) → Go x9 K 7 Q9 pc lv [.int 1] M) {rec23 : Nat → Nat → Nat → Int32 → Mm → Option (Int32 × Mm)} (hrec23 : ∀ (v1 : Nat) (v2 : Nat) (v3 : Nat) (v4 : Int32) (M : Mm), rec23 v1 v2 v3 v4 M = some (1, M9) → Go x9 K 7 Q9 23 [(0, .ref scr9), (1, .ref v1), (2, .ref v2), (3, .ref v3), (4, .int v4)] [] M) (v1 : Nat) (v2 : Nat) (v3 : Nat) (v4 : Int32) (M : Mm) (h : fL_law_289 x9 k9 L9 xs9 rec23 v1 v2 v3 v4 M = some (1, M9)) : Go x9 K 7 Q9 289 [(0, .ref scr9), (1, .ref v1), (2, .ref v2), (3, .ref v3), (4, .int v4)] [] M := by
  have hC := hE.1
  have hnm := hE.2.2.2.2.2.2.2.1
  unfold fL_law_289 at h
  refine go_goto (t := 1335) hC dL_law_289 (by decide) ?_
  exact tL_law_1335 hE hl hS hfin hrec23 _ _ _ _ _ h
def fL_law_224 (x9 : Cx) (k9 : Nat) (L9 : Nat) (xs9 : Nat → Int32) (rec23 : Nat → Nat → Nat → Int32 → Mm → Option (Int32 × Mm)) (v1 : Nat) (v2 : Nat) (v3 : Nat) (v4 : Int32) (M : Mm) : Option (Int32 × Mm) :=
  if ¬ ((v4 + (1 : Int32)) < 0 ∨ L9 ≤ ((v4 + (1 : Int32))).toNatClampNeg) then if ¬ ((v4 + (2 : Int32)) < 0 ∨ L9 ≤ ((v4 + (2 : Int32))).toNatClampNeg) then ob2 (fL_read x9 k9 v1 (xs9 ((v4 + (1 : Int32))).toNatClampNeg) (xs9 ((v4 + (2 : Int32))).toNatClampNeg) v3 M) (fun r3 M4 => if ¬ ((v4 + (1 : Int32)) < 0 ∨ L9 ≤ ((v4 + (1 : Int32))).toNatClampNeg) then if ¬ ((v4 + (2 : Int32)) < 0 ∨ L9 ≤ ((v4 + (2 : Int32))).toNatClampNeg) then if mK M4 v2 = 6 then ob2 (fX5_read x9 k9 v2 (xs9 ((v4 + (1 : Int32))).toNatClampNeg) (xs9 ((v4 + (2 : Int32))).toNatClampNeg) M4) (fun r9 M10 => if mK M10 v2 = 6 then ob2 (fX5_thrown x9 k9 v2 M10) (fun r13 M14 => if r13 = r3 then if r3 = 0 then if mK M14 v3 = 12 ∧ ¬ ((0 : Int32) < 0 ∨ mN M14 v3 ≤ ((0 : Int32)).toNatClampNeg) then if (lg_cmp (mJ M14 v3 ((0 : Int32)).toNatClampNeg) (r9).toInt64) = 0 then fL_law_289 x9 k9 L9 xs9 rec23 v1 v2 v3 v4 M14 else some ((0 : Int32), M14) else none else fL_law_289 x9 k9 L9 xs9 rec23 v1 v2 v3 v4 M14 else some ((0 : Int32), M14)) else none) else none else none else none) else none else none
set_option maxRecDepth 100000 in
set_option maxHeartbeats 4000000 in
theorem tL_law_224 {x9 : Cx} {nm9 : String} {scr9 L9 : Nat} {xs9 : Nat → Int32} {K : Ct} {k9 : Nat} {M0 M9 : Mm} {Q9 : State → Prop} (hE : Ce x9 K RL cL_law 7 (some .boolean) 16 626 nm9 M0) (hl : K.2.1.stackTraces = false) (hS : Sc x9 K scr9 L9 xs9) (hfin : ∀ (lv : List (Nat × Value)) (pc : Nat) (M : Mm), decode cL_law pc = .ok (.ireturn, 1) → Go x9 K 7 Q9 pc lv [.int 1] M) {rec23 : Nat → Nat → Nat → Int32 → Mm → Option (Int32 × Mm)} (hrec23 : ∀ (v1 : Nat) (v2 : Nat) (v3 : Nat) (v4 : Int32) (M : Mm), rec23 v1 v2 v3 v4 M = some (1, M9) → Go x9 K 7 Q9 23 [(0, .ref scr9), (1, .ref v1), (2, .ref v2), (3, .ref v3), (4, .int v4)] [] M) (v1 : Nat) (v2 : Nat) (v3 : Nat) (v4 : Int32) (M : Mm) (h : fL_law_224 x9 k9 L9 xs9 rec23 v1 v2 v3 v4 M = some (1, M9)) : Go x9 K 7 Q9 224 [(0, .ref scr9), (1, .ref v1), (2, .ref v2), (3, .ref v3), (4, .int v4)] [] M := by
  have hC := hE.1
  have hnm := hE.2.2.2.2.2.2.2.1
  unfold fL_law_224 at h
  refine go_aload_n hC dL_law_224 rfl 1 rfl ?_
  refine go_aload_n hC dL_law_225 rfl 0 rfl ?_
  refine go_iload hC dL_law_226 4 rfl ?_
  refine go_iconst hC dL_law_228 (v := (1 : Int32)) (by decide +kernel) ?_
  refine go_iadd hC dL_law_229 ?_
  obtain ⟨h1, h⟩ := os_1 h
  refine go_sld hC hS h1 dL_law_230 ?_
  refine go_aload_n hC dL_law_231 rfl 0 rfl ?_
  refine go_iload hC dL_law_232 4 rfl ?_
  refine go_iconst hC dL_law_234 (v := (2 : Int32)) (by decide +kernel) ?_
  refine go_iadd hC dL_law_235 ?_
  obtain ⟨h2, h⟩ := os_1 h
  refine go_sld hC hS h2 dL_law_236 ?_
  refine go_aload_n hC dL_law_237 rfl 3 rfl ?_
  obtain ⟨r3, M4, h5, h⟩ := os_c h
  refine go_callSH (bytes := cL_read) (maxL := 5) (ret := (some .int)) (n := 4) (As := [.ref v1, .int (xs9 ((v4 + (1 : Int32))).toNatClampNeg), .int (xs9 ((v4 + (2 : Int32))).toNatClampNeg), .ref v3]) (st := []) hE (c_L_read K.2.1 hl h5) (by unfold okY; decide +kernel) rfl m_259 m_257 m_258 m_108 rfl (by simp [Value.category]) (by decide) (by decide) dL_law_238 ?_
  refine go_eq (pc' := 241) (st' := [.int r3]) (M' := M4) (lv' := [(0, .ref scr9), (1, .ref v1), (2, .ref v2), (3, .ref v3), (4, .int v4)]) ?_ rfl rfl rfl rfl
  refine go_istore (lv' := [(5, .int r3), (0, .ref scr9), (1, .ref v1), (2, .ref v2), (3, .ref v3), (4, .int v4)]) hC dL_law_241 (by decide) rfl ?_
  refine go_aload_n hC dL_law_243 rfl 3 rfl ?_
  refine go_aload_n hC dL_law_244 rfl 1 rfl ?_
  refine go_iload hC dL_law_245 5 rfl ?_
  refine go_iconst hC dL_law_247 (v := (1 : Int32)) (by decide +kernel) ?_
  refine go_iadd hC dL_law_248 ?_
  obtain ⟨h7, h⟩ := os_1 h
  refine go_sld hC hS h7 dL_law_249 ?_
  refine go_aload_n hC dL_law_250 rfl 1 rfl ?_
  refine go_iload hC dL_law_251 5 rfl ?_
  refine go_iconst hC dL_law_253 (v := (2 : Int32)) (by decide +kernel) ?_
  refine go_iadd hC dL_law_254 ?_
  obtain ⟨h8, h⟩ := os_1 h
  refine go_sld hC hS h8 dL_law_255 ?_
  obtain ⟨h12, h⟩ := os_1 h
  obtain ⟨r9, M10, h11, h⟩ := os_c h
  refine go_callV (bytes := cX5_read) (maxL := 3) (ret := (some .int)) (n := 2) (As := [.int (xs9 ((v4 + (1 : Int32))).toNatClampNeg), .int (xs9 ((v4 + (2 : Int32))).toNatClampNeg)]) (st := []) hE (c_X5_read K.2.1 h11) (by unfold okY; decide +kernel) rfl h12 rfl (C := RX5) (T := TX5) (N := 28) rfl m_297 m_294 m_295 m_296 m_5 rfl (by simp [Value.category]) (by decide) (by decide) dL_law_256 ?_
  refine go_eq (pc' := 259) (st' := [.int r9]) (M' := M10) (lv' := [(5, .int r3), (0, .ref scr9), (1, .ref v1), (2, .ref v2), (3, .ref v3), (4, .int v4)]) ?_ rfl rfl rfl rfl
  refine go_istore (lv' := [(6, .int r9), (5, .int r3), (0, .ref scr9), (1, .ref v1), (2, .ref v2), (3, .ref v3), (4, .int v4)]) hC dL_law_259 (by decide) rfl ?_
  refine go_aload_n hC dL_law_261 rfl 4 rfl ?_
  obtain ⟨h16, h⟩ := os_1 h
  obtain ⟨r13, M14, h15, h⟩ := os_c h
  refine go_callV (bytes := cX5_thrown) (maxL := 1) (ret := (some .int)) (n := 0) (As := []) (st := []) hE (c_X5_thrown K.2.1 h15) (by unfold okY; decide +kernel) rfl h16 rfl (C := RX5) (T := TX5) (N := 28) rfl m_132 m_129 m_130 m_131 m_5 rfl (by simp [Value.category]) (by decide) (by decide) dL_law_262 ?_
  refine go_eq (pc' := 265) (st' := [.int r13]) (M' := M14) (lv' := [(6, .int r9), (5, .int r3), (0, .ref scr9), (1, .ref v1), (2, .ref v2), (3, .ref v3), (4, .int v4)]) ?_ rfl rfl rfl rfl
  refine go_iload hC dL_law_265 1 rfl ?_
  refine go_icmp_eq (t := 272) hC dL_law_267 (by decide) (fun c17 => ?_) (fun c17 => ?_)
  · have h := os_t h c17
    refine go_iload hC dL_law_272 1 rfl ?_
    refine go_if_ne (t := 289) hC dL_law_274 (by decide) (fun c18 => ?_) (fun c18 => ?_)
    · have h := os_f h c18
      refine go_sub (lv' := [(0, .ref scr9), (1, .ref v1), (2, .ref v2), (3, .ref v3), (4, .int v4)]) [2, 3, 4, 5, 6] rfl ?_
      exact tL_law_289 hE hl hS hfin hrec23 _ _ _ _ _ h
    · have h := os_t h c18
      refine go_aload_n hC dL_law_277 rfl 5 rfl ?_
      refine go_iconst hC dL_law_278 (v := (0 : Int32)) (by decide +kernel) ?_
      obtain ⟨h19, h⟩ := os_1 h
      refine go_lald hC h19.1 h19.2 dL_law_279 ?_
      refine go_iload hC dL_law_280 0 rfl ?_
      refine go_i2l hC dL_law_282 ?_
      refine go_lcmp hC dL_law_283 ?_
      refine go_if_eq (t := 289) hC dL_law_284 (by decide) (fun c20 => ?_) (fun c20 => ?_)
      · have h := os_t h c20
        refine go_sub (lv' := [(0, .ref scr9), (1, .ref v1), (2, .ref v2), (3, .ref v3), (4, .int v4)]) [2, 3, 4, 5, 6] rfl ?_
        exact tL_law_289 hE hl hS hfin hrec23 _ _ _ _ _ h
      · have h := os_f h c20
        refine go_iconst hC dL_law_287 (v := (0 : Int32)) (by decide +kernel) ?_
        exact absurd (show (0 : Int32) = 1 from congrArg Prod.fst (Option.some.inj h)) (by decide)
  · have h := os_f h c17
    refine go_iconst hC dL_law_270 (v := (0 : Int32)) (by decide +kernel) ?_
    exact absurd (show (0 : Int32) = 1 from congrArg Prod.fst (Option.some.inj h)) (by decide)
def fL_law_369 (x9 : Cx) (k9 : Nat) (L9 : Nat) (xs9 : Nat → Int32) (rec23 : Nat → Nat → Nat → Int32 → Mm → Option (Int32 × Mm)) (v1 : Nat) (v2 : Nat) (v3 : Nat) (v4 : Int32) (M : Mm) : Option (Int32 × Mm) :=
  fL_law_1335 x9 k9 L9 xs9 rec23 v1 v2 v3 v4 M
set_option maxRecDepth 100000 in
set_option maxHeartbeats 4000000 in
theorem tL_law_369 {x9 : Cx} {nm9 : String} {scr9 L9 : Nat} {xs9 : Nat → Int32} {K : Ct} {k9 : Nat} {M0 M9 : Mm} {Q9 : State → Prop} (hE : Ce x9 K RL cL_law 7 (some .boolean) 16 626 nm9 M0) (hl : K.2.1.stackTraces = false) (hS : Sc x9 K scr9 L9 xs9) (hfin : ∀ (lv : List (Nat × Value)) (pc : Nat) (M : Mm), decode cL_law pc = .ok (.ireturn, 1) → Go x9 K 7 Q9 pc lv [.int 1] M) {rec23 : Nat → Nat → Nat → Int32 → Mm → Option (Int32 × Mm)} (hrec23 : ∀ (v1 : Nat) (v2 : Nat) (v3 : Nat) (v4 : Int32) (M : Mm), rec23 v1 v2 v3 v4 M = some (1, M9) → Go x9 K 7 Q9 23 [(0, .ref scr9), (1, .ref v1), (2, .ref v2), (3, .ref v3), (4, .int v4)] [] M) (v1 : Nat) (v2 : Nat) (v3 : Nat) (v4 : Int32) (M : Mm) (h : fL_law_369 x9 k9 L9 xs9 rec23 v1 v2 v3 v4 M = some (1, M9)) : Go x9 K 7 Q9 369 [(0, .ref scr9), (1, .ref v1), (2, .ref v2), (3, .ref v3), (4, .int v4)] [] M := by
  have hC := hE.1
  have hnm := hE.2.2.2.2.2.2.2.1
  unfold fL_law_369 at h
  refine go_goto (t := 1335) hC dL_law_369 (by decide) ?_
  exact tL_law_1335 hE hl hS hfin hrec23 _ _ _ _ _ h
def fL_law_292 (x9 : Cx) (k9 : Nat) (L9 : Nat) (xs9 : Nat → Int32) (rec23 : Nat → Nat → Nat → Int32 → Mm → Option (Int32 × Mm)) (v1 : Nat) (v2 : Nat) (v3 : Nat) (v4 : Int32) (M : Mm) : Option (Int32 × Mm) :=
  if ¬ ((v4 + (1 : Int32)) < 0 ∨ L9 ≤ ((v4 + (1 : Int32))).toNatClampNeg) then if ¬ ((v4 + (2 : Int32)) < 0 ∨ L9 ≤ ((v4 + (2 : Int32))).toNatClampNeg) then if ¬ ((v4 + (3 : Int32)) < 0 ∨ L9 ≤ ((v4 + (3 : Int32))).toNatClampNeg) then ob2 (fL_write x9 k9 v1 (xs9 ((v4 + (1 : Int32))).toNatClampNeg) (xs9 ((v4 + (2 : Int32))).toNatClampNeg) (xs9 ((v4 + (3 : Int32))).toNatClampNeg) v3 M) (fun r4 M5 => if ¬ ((v4 + (1 : Int32)) < 0 ∨ L9 ≤ ((v4 + (1 : Int32))).toNatClampNeg) then if ¬ ((v4 + (2 : Int32)) < 0 ∨ L9 ≤ ((v4 + (2 : Int32))).toNatClampNeg) then if ¬ ((v4 + (3 : Int32)) < 0 ∨ L9 ≤ ((v4 + (3 : Int32))).toNatClampNeg) then if mK M5 v2 = 6 then ob2 (fX5_write x9 k9 v2 (xs9 ((v4 + (1 : Int32))).toNatClampNeg) (xs9 ((v4 + (2 : Int32))).toNatClampNeg) (xs9 ((v4 + (3 : Int32))).toNatClampNeg) M5) (fun r11 M12 => if mK M12 v2 = 6 then ob2 (fX5_thrown x9 k9 v2 M12) (fun r15 M16 => if r15 = r4 then if r4 = 0 then if mK M16 v3 = 12 ∧ ¬ ((0 : Int32) < 0 ∨ mN M16 v3 ≤ ((0 : Int32)).toNatClampNeg) then if (lg_cmp (mJ M16 v3 ((0 : Int32)).toNatClampNeg) (r11).toInt64) = 0 then fL_law_369 x9 k9 L9 xs9 rec23 v1 v2 v3 v4 M16 else some ((0 : Int32), M16) else none else fL_law_369 x9 k9 L9 xs9 rec23 v1 v2 v3 v4 M16 else some ((0 : Int32), M16)) else none) else none else none else none else none) else none else none else none
set_option maxRecDepth 100000 in
set_option maxHeartbeats 4000000 in
theorem tL_law_292 {x9 : Cx} {nm9 : String} {scr9 L9 : Nat} {xs9 : Nat → Int32} {K : Ct} {k9 : Nat} {M0 M9 : Mm} {Q9 : State → Prop} (hE : Ce x9 K RL cL_law 7 (some .boolean) 16 626 nm9 M0) (hl : K.2.1.stackTraces = false) (hS : Sc x9 K scr9 L9 xs9) (hfin : ∀ (lv : List (Nat × Value)) (pc : Nat) (M : Mm), decode cL_law pc = .ok (.ireturn, 1) → Go x9 K 7 Q9 pc lv [.int 1] M) {rec23 : Nat → Nat → Nat → Int32 → Mm → Option (Int32 × Mm)} (hrec23 : ∀ (v1 : Nat) (v2 : Nat) (v3 : Nat) (v4 : Int32) (M : Mm), rec23 v1 v2 v3 v4 M = some (1, M9) → Go x9 K 7 Q9 23 [(0, .ref scr9), (1, .ref v1), (2, .ref v2), (3, .ref v3), (4, .int v4)] [] M) (v1 : Nat) (v2 : Nat) (v3 : Nat) (v4 : Int32) (M : Mm) (h : fL_law_292 x9 k9 L9 xs9 rec23 v1 v2 v3 v4 M = some (1, M9)) : Go x9 K 7 Q9 292 [(0, .ref scr9), (1, .ref v1), (2, .ref v2), (3, .ref v3), (4, .int v4)] [] M := by
  have hC := hE.1
  have hnm := hE.2.2.2.2.2.2.2.1
  unfold fL_law_292 at h
  refine go_aload_n hC dL_law_292 rfl 1 rfl ?_
  refine go_aload_n hC dL_law_293 rfl 0 rfl ?_
  refine go_iload hC dL_law_294 4 rfl ?_
  refine go_iconst hC dL_law_296 (v := (1 : Int32)) (by decide +kernel) ?_
  refine go_iadd hC dL_law_297 ?_
  obtain ⟨h1, h⟩ := os_1 h
  refine go_sld hC hS h1 dL_law_298 ?_
  refine go_aload_n hC dL_law_299 rfl 0 rfl ?_
  refine go_iload hC dL_law_300 4 rfl ?_
  refine go_iconst hC dL_law_302 (v := (2 : Int32)) (by decide +kernel) ?_
  refine go_iadd hC dL_law_303 ?_
  obtain ⟨h2, h⟩ := os_1 h
  refine go_sld hC hS h2 dL_law_304 ?_
  refine go_aload_n hC dL_law_305 rfl 0 rfl ?_
  refine go_iload hC dL_law_306 4 rfl ?_
  refine go_iconst hC dL_law_308 (v := (3 : Int32)) (by decide +kernel) ?_
  refine go_iadd hC dL_law_309 ?_
  obtain ⟨h3, h⟩ := os_1 h
  refine go_sld hC hS h3 dL_law_310 ?_
  refine go_aload_n hC dL_law_311 rfl 3 rfl ?_
  obtain ⟨r4, M5, h6, h⟩ := os_c h
  refine go_callSH (bytes := cL_write) (maxL := 6) (ret := (some .int)) (n := 5) (As := [.ref v1, .int (xs9 ((v4 + (1 : Int32))).toNatClampNeg), .int (xs9 ((v4 + (2 : Int32))).toNatClampNeg), .int (xs9 ((v4 + (3 : Int32))).toNatClampNeg), .ref v3]) (st := []) hE (c_L_write K.2.1 hl h6) (by unfold okY; decide +kernel) rfl m_315 m_313 m_314 m_108 rfl (by simp [Value.category]) (by decide) (by decide) dL_law_312 ?_
  refine go_eq (pc' := 315) (st' := [.int r4]) (M' := M5) (lv' := [(0, .ref scr9), (1, .ref v1), (2, .ref v2), (3, .ref v3), (4, .int v4)]) ?_ rfl rfl rfl rfl
  refine go_istore (lv' := [(5, .int r4), (0, .ref scr9), (1, .ref v1), (2, .ref v2), (3, .ref v3), (4, .int v4)]) hC dL_law_315 (by decide) rfl ?_
  refine go_aload_n hC dL_law_317 rfl 3 rfl ?_
  refine go_aload_n hC dL_law_318 rfl 1 rfl ?_
  refine go_iload hC dL_law_319 5 rfl ?_
  refine go_iconst hC dL_law_321 (v := (1 : Int32)) (by decide +kernel) ?_
  refine go_iadd hC dL_law_322 ?_
  obtain ⟨h8, h⟩ := os_1 h
  refine go_sld hC hS h8 dL_law_323 ?_
  refine go_aload_n hC dL_law_324 rfl 1 rfl ?_
  refine go_iload hC dL_law_325 5 rfl ?_
  refine go_iconst hC dL_law_327 (v := (2 : Int32)) (by decide +kernel) ?_
  refine go_iadd hC dL_law_328 ?_
  obtain ⟨h9, h⟩ := os_1 h
  refine go_sld hC hS h9 dL_law_329 ?_
  refine go_aload_n hC dL_law_330 rfl 1 rfl ?_
  refine go_iload hC dL_law_331 5 rfl ?_
  refine go_iconst hC dL_law_333 (v := (3 : Int32)) (by decide +kernel) ?_
  refine go_iadd hC dL_law_334 ?_
  obtain ⟨h10, h⟩ := os_1 h
  refine go_sld hC hS h10 dL_law_335 ?_
  obtain ⟨h14, h⟩ := os_1 h
  obtain ⟨r11, M12, h13, h⟩ := os_c h
  refine go_callV (bytes := cX5_write) (maxL := 4) (ret := (some .int)) (n := 3) (As := [.int (xs9 ((v4 + (1 : Int32))).toNatClampNeg), .int (xs9 ((v4 + (2 : Int32))).toNatClampNeg), .int (xs9 ((v4 + (3 : Int32))).toNatClampNeg)]) (st := []) hE (c_X5_write K.2.1 h13) (by unfold okY; decide +kernel) rfl h14 rfl (C := RX5) (T := TX5) (N := 28) rfl m_335 m_332 m_333 m_334 m_5 rfl (by simp [Value.category]) (by decide) (by decide) dL_law_336 ?_
  refine go_eq (pc' := 339) (st' := [.int r11]) (M' := M12) (lv' := [(5, .int r4), (0, .ref scr9), (1, .ref v1), (2, .ref v2), (3, .ref v3), (4, .int v4)]) ?_ rfl rfl rfl rfl
  refine go_istore (lv' := [(6, .int r11), (5, .int r4), (0, .ref scr9), (1, .ref v1), (2, .ref v2), (3, .ref v3), (4, .int v4)]) hC dL_law_339 (by decide) rfl ?_
  refine go_aload_n hC dL_law_341 rfl 4 rfl ?_
  obtain ⟨h18, h⟩ := os_1 h
  obtain ⟨r15, M16, h17, h⟩ := os_c h
  refine go_callV (bytes := cX5_thrown) (maxL := 1) (ret := (some .int)) (n := 0) (As := []) (st := []) hE (c_X5_thrown K.2.1 h17) (by unfold okY; decide +kernel) rfl h18 rfl (C := RX5) (T := TX5) (N := 28) rfl m_132 m_129 m_130 m_131 m_5 rfl (by simp [Value.category]) (by decide) (by decide) dL_law_342 ?_
  refine go_eq (pc' := 345) (st' := [.int r15]) (M' := M16) (lv' := [(6, .int r11), (5, .int r4), (0, .ref scr9), (1, .ref v1), (2, .ref v2), (3, .ref v3), (4, .int v4)]) ?_ rfl rfl rfl rfl
  refine go_iload hC dL_law_345 1 rfl ?_
  refine go_icmp_eq (t := 352) hC dL_law_347 (by decide) (fun c19 => ?_) (fun c19 => ?_)
  · have h := os_t h c19
    refine go_iload hC dL_law_352 1 rfl ?_
    refine go_if_ne (t := 369) hC dL_law_354 (by decide) (fun c20 => ?_) (fun c20 => ?_)
    · have h := os_f h c20
      refine go_sub (lv' := [(0, .ref scr9), (1, .ref v1), (2, .ref v2), (3, .ref v3), (4, .int v4)]) [2, 3, 4, 5, 6] rfl ?_
      exact tL_law_369 hE hl hS hfin hrec23 _ _ _ _ _ h
    · have h := os_t h c20
      refine go_aload_n hC dL_law_357 rfl 5 rfl ?_
      refine go_iconst hC dL_law_358 (v := (0 : Int32)) (by decide +kernel) ?_
      obtain ⟨h21, h⟩ := os_1 h
      refine go_lald hC h21.1 h21.2 dL_law_359 ?_
      refine go_iload hC dL_law_360 0 rfl ?_
      refine go_i2l hC dL_law_362 ?_
      refine go_lcmp hC dL_law_363 ?_
      refine go_if_eq (t := 369) hC dL_law_364 (by decide) (fun c22 => ?_) (fun c22 => ?_)
      · have h := os_t h c22
        refine go_sub (lv' := [(0, .ref scr9), (1, .ref v1), (2, .ref v2), (3, .ref v3), (4, .int v4)]) [2, 3, 4, 5, 6] rfl ?_
        exact tL_law_369 hE hl hS hfin hrec23 _ _ _ _ _ h
      · have h := os_f h c22
        refine go_iconst hC dL_law_367 (v := (0 : Int32)) (by decide +kernel) ?_
        exact absurd (show (0 : Int32) = 1 from congrArg Prod.fst (Option.some.inj h)) (by decide)
  · have h := os_f h c19
    refine go_iconst hC dL_law_350 (v := (0 : Int32)) (by decide +kernel) ?_
    exact absurd (show (0 : Int32) = 1 from congrArg Prod.fst (Option.some.inj h)) (by decide)
def fL_law_461 (x9 : Cx) (k9 : Nat) (L9 : Nat) (xs9 : Nat → Int32) (rec23 : Nat → Nat → Nat → Int32 → Mm → Option (Int32 × Mm)) (v1 : Nat) (v2 : Nat) (v3 : Nat) (v4 : Int32) (M : Mm) : Option (Int32 × Mm) :=
  fL_law_1335 x9 k9 L9 xs9 rec23 v1 v2 v3 v4 M
set_option maxRecDepth 100000 in
set_option maxHeartbeats 4000000 in
theorem tL_law_461 {x9 : Cx} {nm9 : String} {scr9 L9 : Nat} {xs9 : Nat → Int32} {K : Ct} {k9 : Nat} {M0 M9 : Mm} {Q9 : State → Prop} (hE : Ce x9 K RL cL_law 7 (some .boolean) 16 626 nm9 M0) (hl : K.2.1.stackTraces = false) (hS : Sc x9 K scr9 L9 xs9) (hfin : ∀ (lv : List (Nat × Value)) (pc : Nat) (M : Mm), decode cL_law pc = .ok (.ireturn, 1) → Go x9 K 7 Q9 pc lv [.int 1] M) {rec23 : Nat → Nat → Nat → Int32 → Mm → Option (Int32 × Mm)} (hrec23 : ∀ (v1 : Nat) (v2 : Nat) (v3 : Nat) (v4 : Int32) (M : Mm), rec23 v1 v2 v3 v4 M = some (1, M9) → Go x9 K 7 Q9 23 [(0, .ref scr9), (1, .ref v1), (2, .ref v2), (3, .ref v3), (4, .int v4)] [] M) (v1 : Nat) (v2 : Nat) (v3 : Nat) (v4 : Int32) (M : Mm) (h : fL_law_461 x9 k9 L9 xs9 rec23 v1 v2 v3 v4 M = some (1, M9)) : Go x9 K 7 Q9 461 [(0, .ref scr9), (1, .ref v1), (2, .ref v2), (3, .ref v3), (4, .int v4)] [] M := by
  have hC := hE.1
  have hnm := hE.2.2.2.2.2.2.2.1
  unfold fL_law_461 at h
  refine go_goto (t := 1335) hC dL_law_461 (by decide) ?_
  exact tL_law_1335 hE hl hS hfin hrec23 _ _ _ _ _ h
def fL_law_372 (x9 : Cx) (k9 : Nat) (L9 : Nat) (xs9 : Nat → Int32) (rec23 : Nat → Nat → Nat → Int32 → Mm → Option (Int32 × Mm)) (v1 : Nat) (v2 : Nat) (v3 : Nat) (v4 : Int32) (M : Mm) : Option (Int32 × Mm) :=
  if ¬ ((v4 + (1 : Int32)) < 0 ∨ L9 ≤ ((v4 + (1 : Int32))).toNatClampNeg) then if ¬ ((v4 + (2 : Int32)) < 0 ∨ L9 ≤ ((v4 + (2 : Int32))).toNatClampNeg) then if ¬ ((v4 + (3 : Int32)) < 0 ∨ L9 ≤ ((v4 + (3 : Int32))).toNatClampNeg) then if ¬ ((v4 + (4 : Int32)) < 0 ∨ L9 ≤ ((v4 + (4 : Int32))).toNatClampNeg) then ob2 (fL_change x9 k9 v1 (xs9 ((v4 + (1 : Int32))).toNatClampNeg) (xs9 ((v4 + (2 : Int32))).toNatClampNeg) (xs9 ((v4 + (3 : Int32))).toNatClampNeg) (xs9 ((v4 + (4 : Int32))).toNatClampNeg) v3 M) (fun r5 M6 => if ¬ ((v4 + (1 : Int32)) < 0 ∨ L9 ≤ ((v4 + (1 : Int32))).toNatClampNeg) then if ¬ ((v4 + (2 : Int32)) < 0 ∨ L9 ≤ ((v4 + (2 : Int32))).toNatClampNeg) then if ¬ ((v4 + (3 : Int32)) < 0 ∨ L9 ≤ ((v4 + (3 : Int32))).toNatClampNeg) then if ¬ ((v4 + (4 : Int32)) < 0 ∨ L9 ≤ ((v4 + (4 : Int32))).toNatClampNeg) then if mK M6 v2 = 6 then ob2 (fX5_change x9 k9 v2 (xs9 ((v4 + (1 : Int32))).toNatClampNeg) (xs9 ((v4 + (2 : Int32))).toNatClampNeg) (xs9 ((v4 + (3 : Int32))).toNatClampNeg) (xs9 ((v4 + (4 : Int32))).toNatClampNeg) M6) (fun r13 M14 => if mK M14 v2 = 6 then ob2 (fX5_thrown x9 k9 v2 M14) (fun r17 M18 => if r17 = r5 then if r5 = 0 then if mK M18 v3 = 12 ∧ ¬ ((0 : Int32) < 0 ∨ mN M18 v3 ≤ ((0 : Int32)).toNatClampNeg) then if (lg_cmp (mJ M18 v3 ((0 : Int32)).toNatClampNeg) (r13).toInt64) = 0 then fL_law_461 x9 k9 L9 xs9 rec23 v1 v2 v3 v4 M18 else some ((0 : Int32), M18) else none else fL_law_461 x9 k9 L9 xs9 rec23 v1 v2 v3 v4 M18 else some ((0 : Int32), M18)) else none) else none else none else none else none else none) else none else none else none else none
set_option maxRecDepth 100000 in
set_option maxHeartbeats 4000000 in
theorem tL_law_372 {x9 : Cx} {nm9 : String} {scr9 L9 : Nat} {xs9 : Nat → Int32} {K : Ct} {k9 : Nat} {M0 M9 : Mm} {Q9 : State → Prop} (hE : Ce x9 K RL cL_law 7 (some .boolean) 16 626 nm9 M0) (hl : K.2.1.stackTraces = false) (hS : Sc x9 K scr9 L9 xs9) (hfin : ∀ (lv : List (Nat × Value)) (pc : Nat) (M : Mm), decode cL_law pc = .ok (.ireturn, 1) → Go x9 K 7 Q9 pc lv [.int 1] M) {rec23 : Nat → Nat → Nat → Int32 → Mm → Option (Int32 × Mm)} (hrec23 : ∀ (v1 : Nat) (v2 : Nat) (v3 : Nat) (v4 : Int32) (M : Mm), rec23 v1 v2 v3 v4 M = some (1, M9) → Go x9 K 7 Q9 23 [(0, .ref scr9), (1, .ref v1), (2, .ref v2), (3, .ref v3), (4, .int v4)] [] M) (v1 : Nat) (v2 : Nat) (v3 : Nat) (v4 : Int32) (M : Mm) (h : fL_law_372 x9 k9 L9 xs9 rec23 v1 v2 v3 v4 M = some (1, M9)) : Go x9 K 7 Q9 372 [(0, .ref scr9), (1, .ref v1), (2, .ref v2), (3, .ref v3), (4, .int v4)] [] M := by
  have hC := hE.1
  have hnm := hE.2.2.2.2.2.2.2.1
  unfold fL_law_372 at h
  refine go_aload_n hC dL_law_372 rfl 1 rfl ?_
  refine go_aload_n hC dL_law_373 rfl 0 rfl ?_
  refine go_iload hC dL_law_374 4 rfl ?_
  refine go_iconst hC dL_law_376 (v := (1 : Int32)) (by decide +kernel) ?_
  refine go_iadd hC dL_law_377 ?_
  obtain ⟨h1, h⟩ := os_1 h
  refine go_sld hC hS h1 dL_law_378 ?_
  refine go_aload_n hC dL_law_379 rfl 0 rfl ?_
  refine go_iload hC dL_law_380 4 rfl ?_
  refine go_iconst hC dL_law_382 (v := (2 : Int32)) (by decide +kernel) ?_
  refine go_iadd hC dL_law_383 ?_
  obtain ⟨h2, h⟩ := os_1 h
  refine go_sld hC hS h2 dL_law_384 ?_
  refine go_aload_n hC dL_law_385 rfl 0 rfl ?_
  refine go_iload hC dL_law_386 4 rfl ?_
  refine go_iconst hC dL_law_388 (v := (3 : Int32)) (by decide +kernel) ?_
  refine go_iadd hC dL_law_389 ?_
  obtain ⟨h3, h⟩ := os_1 h
  refine go_sld hC hS h3 dL_law_390 ?_
  refine go_aload_n hC dL_law_391 rfl 0 rfl ?_
  refine go_iload hC dL_law_392 4 rfl ?_
  refine go_iconst hC dL_law_394 (v := (4 : Int32)) (by decide +kernel) ?_
  refine go_iadd hC dL_law_395 ?_
  obtain ⟨h4, h⟩ := os_1 h
  refine go_sld hC hS h4 dL_law_396 ?_
  refine go_aload_n hC dL_law_397 rfl 3 rfl ?_
  obtain ⟨r5, M6, h7, h⟩ := os_c h
  refine go_callSH (bytes := cL_change) (maxL := 7) (ret := (some .int)) (n := 6) (As := [.ref v1, .int (xs9 ((v4 + (1 : Int32))).toNatClampNeg), .int (xs9 ((v4 + (2 : Int32))).toNatClampNeg), .int (xs9 ((v4 + (3 : Int32))).toNatClampNeg), .int (xs9 ((v4 + (4 : Int32))).toNatClampNeg), .ref v3]) (st := []) hE (c_L_change K.2.1 hl h7) (by unfold okY; decide +kernel) rfl m_342 m_340 m_341 m_108 rfl (by simp [Value.category]) (by decide) (by decide) dL_law_398 ?_
  refine go_eq (pc' := 401) (st' := [.int r5]) (M' := M6) (lv' := [(0, .ref scr9), (1, .ref v1), (2, .ref v2), (3, .ref v3), (4, .int v4)]) ?_ rfl rfl rfl rfl
  refine go_istore (lv' := [(5, .int r5), (0, .ref scr9), (1, .ref v1), (2, .ref v2), (3, .ref v3), (4, .int v4)]) hC dL_law_401 (by decide) rfl ?_
  refine go_aload_n hC dL_law_403 rfl 3 rfl ?_
  refine go_aload_n hC dL_law_404 rfl 1 rfl ?_
  refine go_iload hC dL_law_405 5 rfl ?_
  refine go_iconst hC dL_law_407 (v := (1 : Int32)) (by decide +kernel) ?_
  refine go_iadd hC dL_law_408 ?_
  obtain ⟨h9, h⟩ := os_1 h
  refine go_sld hC hS h9 dL_law_409 ?_
  refine go_aload_n hC dL_law_410 rfl 1 rfl ?_
  refine go_iload hC dL_law_411 5 rfl ?_
  refine go_iconst hC dL_law_413 (v := (2 : Int32)) (by decide +kernel) ?_
  refine go_iadd hC dL_law_414 ?_
  obtain ⟨h10, h⟩ := os_1 h
  refine go_sld hC hS h10 dL_law_415 ?_
  refine go_aload_n hC dL_law_416 rfl 1 rfl ?_
  refine go_iload hC dL_law_417 5 rfl ?_
  refine go_iconst hC dL_law_419 (v := (3 : Int32)) (by decide +kernel) ?_
  refine go_iadd hC dL_law_420 ?_
  obtain ⟨h11, h⟩ := os_1 h
  refine go_sld hC hS h11 dL_law_421 ?_
  refine go_aload_n hC dL_law_422 rfl 1 rfl ?_
  refine go_iload hC dL_law_423 5 rfl ?_
  refine go_iconst hC dL_law_425 (v := (4 : Int32)) (by decide +kernel) ?_
  refine go_iadd hC dL_law_426 ?_
  obtain ⟨h12, h⟩ := os_1 h
  refine go_sld hC hS h12 dL_law_427 ?_
  obtain ⟨h16, h⟩ := os_1 h
  obtain ⟨r13, M14, h15, h⟩ := os_c h
  refine go_callV (bytes := cX5_change) (maxL := 5) (ret := (some .int)) (n := 4) (As := [.int (xs9 ((v4 + (1 : Int32))).toNatClampNeg), .int (xs9 ((v4 + (2 : Int32))).toNatClampNeg), .int (xs9 ((v4 + (3 : Int32))).toNatClampNeg), .int (xs9 ((v4 + (4 : Int32))).toNatClampNeg)]) (st := []) hE (c_X5_change K.2.1 h15) (by unfold okY; decide +kernel) rfl h16 rfl (C := RX5) (T := TX5) (N := 28) rfl m_359 m_356 m_357 m_358 m_5 rfl (by simp [Value.category]) (by decide) (by decide) dL_law_428 ?_
  refine go_eq (pc' := 431) (st' := [.int r13]) (M' := M14) (lv' := [(5, .int r5), (0, .ref scr9), (1, .ref v1), (2, .ref v2), (3, .ref v3), (4, .int v4)]) ?_ rfl rfl rfl rfl
  refine go_istore (lv' := [(6, .int r13), (5, .int r5), (0, .ref scr9), (1, .ref v1), (2, .ref v2), (3, .ref v3), (4, .int v4)]) hC dL_law_431 (by decide) rfl ?_
  refine go_aload_n hC dL_law_433 rfl 4 rfl ?_
  obtain ⟨h20, h⟩ := os_1 h
  obtain ⟨r17, M18, h19, h⟩ := os_c h
  refine go_callV (bytes := cX5_thrown) (maxL := 1) (ret := (some .int)) (n := 0) (As := []) (st := []) hE (c_X5_thrown K.2.1 h19) (by unfold okY; decide +kernel) rfl h20 rfl (C := RX5) (T := TX5) (N := 28) rfl m_132 m_129 m_130 m_131 m_5 rfl (by simp [Value.category]) (by decide) (by decide) dL_law_434 ?_
  refine go_eq (pc' := 437) (st' := [.int r17]) (M' := M18) (lv' := [(6, .int r13), (5, .int r5), (0, .ref scr9), (1, .ref v1), (2, .ref v2), (3, .ref v3), (4, .int v4)]) ?_ rfl rfl rfl rfl
  refine go_iload hC dL_law_437 1 rfl ?_
  refine go_icmp_eq (t := 444) hC dL_law_439 (by decide) (fun c21 => ?_) (fun c21 => ?_)
  · have h := os_t h c21
    refine go_iload hC dL_law_444 1 rfl ?_
    refine go_if_ne (t := 461) hC dL_law_446 (by decide) (fun c22 => ?_) (fun c22 => ?_)
    · have h := os_f h c22
      refine go_sub (lv' := [(0, .ref scr9), (1, .ref v1), (2, .ref v2), (3, .ref v3), (4, .int v4)]) [2, 3, 4, 5, 6] rfl ?_
      exact tL_law_461 hE hl hS hfin hrec23 _ _ _ _ _ h
    · have h := os_t h c22
      refine go_aload_n hC dL_law_449 rfl 5 rfl ?_
      refine go_iconst hC dL_law_450 (v := (0 : Int32)) (by decide +kernel) ?_
      obtain ⟨h23, h⟩ := os_1 h
      refine go_lald hC h23.1 h23.2 dL_law_451 ?_
      refine go_iload hC dL_law_452 0 rfl ?_
      refine go_i2l hC dL_law_454 ?_
      refine go_lcmp hC dL_law_455 ?_
      refine go_if_eq (t := 461) hC dL_law_456 (by decide) (fun c24 => ?_) (fun c24 => ?_)
      · have h := os_t h c24
        refine go_sub (lv' := [(0, .ref scr9), (1, .ref v1), (2, .ref v2), (3, .ref v3), (4, .int v4)]) [2, 3, 4, 5, 6] rfl ?_
        exact tL_law_461 hE hl hS hfin hrec23 _ _ _ _ _ h
      · have h := os_f h c24
        refine go_iconst hC dL_law_459 (v := (0 : Int32)) (by decide +kernel) ?_
        exact absurd (show (0 : Int32) = 1 from congrArg Prod.fst (Option.some.inj h)) (by decide)
  · have h := os_f h c21
    refine go_iconst hC dL_law_442 (v := (0 : Int32)) (by decide +kernel) ?_
    exact absurd (show (0 : Int32) = 1 from congrArg Prod.fst (Option.some.inj h)) (by decide)
def fL_law_541 (x9 : Cx) (k9 : Nat) (L9 : Nat) (xs9 : Nat → Int32) (rec23 : Nat → Nat → Nat → Int32 → Mm → Option (Int32 × Mm)) (v1 : Nat) (v2 : Nat) (v3 : Nat) (v4 : Int32) (M : Mm) : Option (Int32 × Mm) :=
  fL_law_1335 x9 k9 L9 xs9 rec23 v1 v2 v3 v4 M
set_option maxRecDepth 100000 in
set_option maxHeartbeats 4000000 in
theorem tL_law_541 {x9 : Cx} {nm9 : String} {scr9 L9 : Nat} {xs9 : Nat → Int32} {K : Ct} {k9 : Nat} {M0 M9 : Mm} {Q9 : State → Prop} (hE : Ce x9 K RL cL_law 7 (some .boolean) 16 626 nm9 M0) (hl : K.2.1.stackTraces = false) (hS : Sc x9 K scr9 L9 xs9) (hfin : ∀ (lv : List (Nat × Value)) (pc : Nat) (M : Mm), decode cL_law pc = .ok (.ireturn, 1) → Go x9 K 7 Q9 pc lv [.int 1] M) {rec23 : Nat → Nat → Nat → Int32 → Mm → Option (Int32 × Mm)} (hrec23 : ∀ (v1 : Nat) (v2 : Nat) (v3 : Nat) (v4 : Int32) (M : Mm), rec23 v1 v2 v3 v4 M = some (1, M9) → Go x9 K 7 Q9 23 [(0, .ref scr9), (1, .ref v1), (2, .ref v2), (3, .ref v3), (4, .int v4)] [] M) (v1 : Nat) (v2 : Nat) (v3 : Nat) (v4 : Int32) (M : Mm) (h : fL_law_541 x9 k9 L9 xs9 rec23 v1 v2 v3 v4 M = some (1, M9)) : Go x9 K 7 Q9 541 [(0, .ref scr9), (1, .ref v1), (2, .ref v2), (3, .ref v3), (4, .int v4)] [] M := by
  have hC := hE.1
  have hnm := hE.2.2.2.2.2.2.2.1
  unfold fL_law_541 at h
  refine go_goto (t := 1335) hC dL_law_541 (by decide) ?_
  exact tL_law_1335 hE hl hS hfin hrec23 _ _ _ _ _ h
def fL_law_464 (x9 : Cx) (k9 : Nat) (L9 : Nat) (xs9 : Nat → Int32) (rec23 : Nat → Nat → Nat → Int32 → Mm → Option (Int32 × Mm)) (v1 : Nat) (v2 : Nat) (v3 : Nat) (v4 : Int32) (M : Mm) : Option (Int32 × Mm) :=
  if ¬ ((v4 + (1 : Int32)) < 0 ∨ L9 ≤ ((v4 + (1 : Int32))).toNatClampNeg) then if ¬ ((v4 + (2 : Int32)) < 0 ∨ L9 ≤ ((v4 + (2 : Int32))).toNatClampNeg) then if ¬ ((v4 + (3 : Int32)) < 0 ∨ L9 ≤ ((v4 + (3 : Int32))).toNatClampNeg) then ob2 (fL_count x9 k9 v1 (xs9 ((v4 + (1 : Int32))).toNatClampNeg) (xs9 ((v4 + (2 : Int32))).toNatClampNeg) (xs9 ((v4 + (3 : Int32))).toNatClampNeg) v3 M) (fun r4 M5 => if ¬ ((v4 + (1 : Int32)) < 0 ∨ L9 ≤ ((v4 + (1 : Int32))).toNatClampNeg) then if ¬ ((v4 + (2 : Int32)) < 0 ∨ L9 ≤ ((v4 + (2 : Int32))).toNatClampNeg) then if ¬ ((v4 + (3 : Int32)) < 0 ∨ L9 ≤ ((v4 + (3 : Int32))).toNatClampNeg) then if mK M5 v2 = 6 then ob2 (fX5_count x9 k9 v2 (xs9 ((v4 + (1 : Int32))).toNatClampNeg) (xs9 ((v4 + (2 : Int32))).toNatClampNeg) (xs9 ((v4 + (3 : Int32))).toNatClampNeg) M5) (fun r11 M12 => if mK M12 v2 = 6 then ob2 (fX5_thrown x9 k9 v2 M12) (fun r15 M16 => if r15 = r4 then if r4 = 0 then if mK M16 v3 = 12 ∧ ¬ ((0 : Int32) < 0 ∨ mN M16 v3 ≤ ((0 : Int32)).toNatClampNeg) then if (lg_cmp (mJ M16 v3 ((0 : Int32)).toNatClampNeg) (r11).toInt64) = 0 then fL_law_541 x9 k9 L9 xs9 rec23 v1 v2 v3 v4 M16 else some ((0 : Int32), M16) else none else fL_law_541 x9 k9 L9 xs9 rec23 v1 v2 v3 v4 M16 else some ((0 : Int32), M16)) else none) else none else none else none else none) else none else none else none
set_option maxRecDepth 100000 in
set_option maxHeartbeats 4000000 in
theorem tL_law_464 {x9 : Cx} {nm9 : String} {scr9 L9 : Nat} {xs9 : Nat → Int32} {K : Ct} {k9 : Nat} {M0 M9 : Mm} {Q9 : State → Prop} (hE : Ce x9 K RL cL_law 7 (some .boolean) 16 626 nm9 M0) (hl : K.2.1.stackTraces = false) (hS : Sc x9 K scr9 L9 xs9) (hfin : ∀ (lv : List (Nat × Value)) (pc : Nat) (M : Mm), decode cL_law pc = .ok (.ireturn, 1) → Go x9 K 7 Q9 pc lv [.int 1] M) {rec23 : Nat → Nat → Nat → Int32 → Mm → Option (Int32 × Mm)} (hrec23 : ∀ (v1 : Nat) (v2 : Nat) (v3 : Nat) (v4 : Int32) (M : Mm), rec23 v1 v2 v3 v4 M = some (1, M9) → Go x9 K 7 Q9 23 [(0, .ref scr9), (1, .ref v1), (2, .ref v2), (3, .ref v3), (4, .int v4)] [] M) (v1 : Nat) (v2 : Nat) (v3 : Nat) (v4 : Int32) (M : Mm) (h : fL_law_464 x9 k9 L9 xs9 rec23 v1 v2 v3 v4 M = some (1, M9)) : Go x9 K 7 Q9 464 [(0, .ref scr9), (1, .ref v1), (2, .ref v2), (3, .ref v3), (4, .int v4)] [] M := by
  have hC := hE.1
  have hnm := hE.2.2.2.2.2.2.2.1
  unfold fL_law_464 at h
  refine go_aload_n hC dL_law_464 rfl 1 rfl ?_
  refine go_aload_n hC dL_law_465 rfl 0 rfl ?_
  refine go_iload hC dL_law_466 4 rfl ?_
  refine go_iconst hC dL_law_468 (v := (1 : Int32)) (by decide +kernel) ?_
  refine go_iadd hC dL_law_469 ?_
  obtain ⟨h1, h⟩ := os_1 h
  refine go_sld hC hS h1 dL_law_470 ?_
  refine go_aload_n hC dL_law_471 rfl 0 rfl ?_
  refine go_iload hC dL_law_472 4 rfl ?_
  refine go_iconst hC dL_law_474 (v := (2 : Int32)) (by decide +kernel) ?_
  refine go_iadd hC dL_law_475 ?_
  obtain ⟨h2, h⟩ := os_1 h
  refine go_sld hC hS h2 dL_law_476 ?_
  refine go_aload_n hC dL_law_477 rfl 0 rfl ?_
  refine go_iload hC dL_law_478 4 rfl ?_
  refine go_iconst hC dL_law_480 (v := (3 : Int32)) (by decide +kernel) ?_
  refine go_iadd hC dL_law_481 ?_
  obtain ⟨h3, h⟩ := os_1 h
  refine go_sld hC hS h3 dL_law_482 ?_
  refine go_aload_n hC dL_law_483 rfl 3 rfl ?_
  obtain ⟨r4, M5, h6, h⟩ := os_c h
  refine go_callSH (bytes := cL_count) (maxL := 6) (ret := (some .int)) (n := 5) (As := [.ref v1, .int (xs9 ((v4 + (1 : Int32))).toNatClampNeg), .int (xs9 ((v4 + (2 : Int32))).toNatClampNeg), .int (xs9 ((v4 + (3 : Int32))).toNatClampNeg), .ref v3]) (st := []) hE (c_L_count K.2.1 hl h6) (by unfold okY; decide +kernel) rfl m_365 m_363 m_364 m_108 rfl (by simp [Value.category]) (by decide) (by decide) dL_law_484 ?_
  refine go_eq (pc' := 487) (st' := [.int r4]) (M' := M5) (lv' := [(0, .ref scr9), (1, .ref v1), (2, .ref v2), (3, .ref v3), (4, .int v4)]) ?_ rfl rfl rfl rfl
  refine go_istore (lv' := [(5, .int r4), (0, .ref scr9), (1, .ref v1), (2, .ref v2), (3, .ref v3), (4, .int v4)]) hC dL_law_487 (by decide) rfl ?_
  refine go_aload_n hC dL_law_489 rfl 3 rfl ?_
  refine go_aload_n hC dL_law_490 rfl 1 rfl ?_
  refine go_iload hC dL_law_491 5 rfl ?_
  refine go_iconst hC dL_law_493 (v := (1 : Int32)) (by decide +kernel) ?_
  refine go_iadd hC dL_law_494 ?_
  obtain ⟨h8, h⟩ := os_1 h
  refine go_sld hC hS h8 dL_law_495 ?_
  refine go_aload_n hC dL_law_496 rfl 1 rfl ?_
  refine go_iload hC dL_law_497 5 rfl ?_
  refine go_iconst hC dL_law_499 (v := (2 : Int32)) (by decide +kernel) ?_
  refine go_iadd hC dL_law_500 ?_
  obtain ⟨h9, h⟩ := os_1 h
  refine go_sld hC hS h9 dL_law_501 ?_
  refine go_aload_n hC dL_law_502 rfl 1 rfl ?_
  refine go_iload hC dL_law_503 5 rfl ?_
  refine go_iconst hC dL_law_505 (v := (3 : Int32)) (by decide +kernel) ?_
  refine go_iadd hC dL_law_506 ?_
  obtain ⟨h10, h⟩ := os_1 h
  refine go_sld hC hS h10 dL_law_507 ?_
  obtain ⟨h14, h⟩ := os_1 h
  obtain ⟨r11, M12, h13, h⟩ := os_c h
  refine go_callV (bytes := cX5_count) (maxL := 7) (ret := (some .int)) (n := 3) (As := [.int (xs9 ((v4 + (1 : Int32))).toNatClampNeg), .int (xs9 ((v4 + (2 : Int32))).toNatClampNeg), .int (xs9 ((v4 + (3 : Int32))).toNatClampNeg)]) (st := []) hE (c_X5_count K.2.1 h13) (by unfold okY; decide +kernel) rfl h14 rfl (C := RX5) (T := TX5) (N := 28) rfl m_381 m_378 m_379 m_380 m_5 rfl (by simp [Value.category]) (by decide) (by decide) dL_law_508 ?_
  refine go_eq (pc' := 511) (st' := [.int r11]) (M' := M12) (lv' := [(5, .int r4), (0, .ref scr9), (1, .ref v1), (2, .ref v2), (3, .ref v3), (4, .int v4)]) ?_ rfl rfl rfl rfl
  refine go_istore (lv' := [(6, .int r11), (5, .int r4), (0, .ref scr9), (1, .ref v1), (2, .ref v2), (3, .ref v3), (4, .int v4)]) hC dL_law_511 (by decide) rfl ?_
  refine go_aload_n hC dL_law_513 rfl 4 rfl ?_
  obtain ⟨h18, h⟩ := os_1 h
  obtain ⟨r15, M16, h17, h⟩ := os_c h
  refine go_callV (bytes := cX5_thrown) (maxL := 1) (ret := (some .int)) (n := 0) (As := []) (st := []) hE (c_X5_thrown K.2.1 h17) (by unfold okY; decide +kernel) rfl h18 rfl (C := RX5) (T := TX5) (N := 28) rfl m_132 m_129 m_130 m_131 m_5 rfl (by simp [Value.category]) (by decide) (by decide) dL_law_514 ?_
  refine go_eq (pc' := 517) (st' := [.int r15]) (M' := M16) (lv' := [(6, .int r11), (5, .int r4), (0, .ref scr9), (1, .ref v1), (2, .ref v2), (3, .ref v3), (4, .int v4)]) ?_ rfl rfl rfl rfl
  refine go_iload hC dL_law_517 1 rfl ?_
  refine go_icmp_eq (t := 524) hC dL_law_519 (by decide) (fun c19 => ?_) (fun c19 => ?_)
  · have h := os_t h c19
    refine go_iload hC dL_law_524 1 rfl ?_
    refine go_if_ne (t := 541) hC dL_law_526 (by decide) (fun c20 => ?_) (fun c20 => ?_)
    · have h := os_f h c20
      refine go_sub (lv' := [(0, .ref scr9), (1, .ref v1), (2, .ref v2), (3, .ref v3), (4, .int v4)]) [2, 3, 4, 5, 6] rfl ?_
      exact tL_law_541 hE hl hS hfin hrec23 _ _ _ _ _ h
    · have h := os_t h c20
      refine go_aload_n hC dL_law_529 rfl 5 rfl ?_
      refine go_iconst hC dL_law_530 (v := (0 : Int32)) (by decide +kernel) ?_
      obtain ⟨h21, h⟩ := os_1 h
      refine go_lald hC h21.1 h21.2 dL_law_531 ?_
      refine go_iload hC dL_law_532 0 rfl ?_
      refine go_i2l hC dL_law_534 ?_
      refine go_lcmp hC dL_law_535 ?_
      refine go_if_eq (t := 541) hC dL_law_536 (by decide) (fun c22 => ?_) (fun c22 => ?_)
      · have h := os_t h c22
        refine go_sub (lv' := [(0, .ref scr9), (1, .ref v1), (2, .ref v2), (3, .ref v3), (4, .int v4)]) [2, 3, 4, 5, 6] rfl ?_
        exact tL_law_541 hE hl hS hfin hrec23 _ _ _ _ _ h
      · have h := os_f h c22
        refine go_iconst hC dL_law_539 (v := (0 : Int32)) (by decide +kernel) ?_
        exact absurd (show (0 : Int32) = 1 from congrArg Prod.fst (Option.some.inj h)) (by decide)
  · have h := os_f h c19
    refine go_iconst hC dL_law_522 (v := (0 : Int32)) (by decide +kernel) ?_
    exact absurd (show (0 : Int32) = 1 from congrArg Prod.fst (Option.some.inj h)) (by decide)
def fL_law_597 (x9 : Cx) (k9 : Nat) (L9 : Nat) (xs9 : Nat → Int32) (rec23 : Nat → Nat → Nat → Int32 → Mm → Option (Int32 × Mm)) (v1 : Nat) (v2 : Nat) (v3 : Nat) (v4 : Int32) (M : Mm) : Option (Int32 × Mm) :=
  fL_law_1335 x9 k9 L9 xs9 rec23 v1 v2 v3 v4 M
set_option maxRecDepth 100000 in
set_option maxHeartbeats 4000000 in
theorem tL_law_597 {x9 : Cx} {nm9 : String} {scr9 L9 : Nat} {xs9 : Nat → Int32} {K : Ct} {k9 : Nat} {M0 M9 : Mm} {Q9 : State → Prop} (hE : Ce x9 K RL cL_law 7 (some .boolean) 16 626 nm9 M0) (hl : K.2.1.stackTraces = false) (hS : Sc x9 K scr9 L9 xs9) (hfin : ∀ (lv : List (Nat × Value)) (pc : Nat) (M : Mm), decode cL_law pc = .ok (.ireturn, 1) → Go x9 K 7 Q9 pc lv [.int 1] M) {rec23 : Nat → Nat → Nat → Int32 → Mm → Option (Int32 × Mm)} (hrec23 : ∀ (v1 : Nat) (v2 : Nat) (v3 : Nat) (v4 : Int32) (M : Mm), rec23 v1 v2 v3 v4 M = some (1, M9) → Go x9 K 7 Q9 23 [(0, .ref scr9), (1, .ref v1), (2, .ref v2), (3, .ref v3), (4, .int v4)] [] M) (v1 : Nat) (v2 : Nat) (v3 : Nat) (v4 : Int32) (M : Mm) (h : fL_law_597 x9 k9 L9 xs9 rec23 v1 v2 v3 v4 M = some (1, M9)) : Go x9 K 7 Q9 597 [(0, .ref scr9), (1, .ref v1), (2, .ref v2), (3, .ref v3), (4, .int v4)] [] M := by
  have hC := hE.1
  have hnm := hE.2.2.2.2.2.2.2.1
  unfold fL_law_597 at h
  refine go_goto (t := 1335) hC dL_law_597 (by decide) ?_
  exact tL_law_1335 hE hl hS hfin hrec23 _ _ _ _ _ h
def fL_law_544 (x9 : Cx) (k9 : Nat) (L9 : Nat) (xs9 : Nat → Int32) (rec23 : Nat → Nat → Nat → Int32 → Mm → Option (Int32 × Mm)) (v1 : Nat) (v2 : Nat) (v3 : Nat) (v4 : Int32) (M : Mm) : Option (Int32 × Mm) :=
  if ¬ ((v4 + (1 : Int32)) < 0 ∨ L9 ≤ ((v4 + (1 : Int32))).toNatClampNeg) then ob2 (fL_commit x9 k9 v1 (xs9 ((v4 + (1 : Int32))).toNatClampNeg) v3 M) (fun r2 M3 => if ¬ ((v4 + (1 : Int32)) < 0 ∨ L9 ≤ ((v4 + (1 : Int32))).toNatClampNeg) then if mK M3 v2 = 6 then ob2 (fX5_commit x9 k9 v2 (xs9 ((v4 + (1 : Int32))).toNatClampNeg) M3) (fun r7 M8 => if mK M8 v2 = 6 then ob2 (fX5_thrown x9 k9 v2 M8) (fun r11 M12 => if r11 = r2 then if r2 = 0 then if mK M12 v3 = 12 ∧ ¬ ((0 : Int32) < 0 ∨ mN M12 v3 ≤ ((0 : Int32)).toNatClampNeg) then if (lg_cmp (mJ M12 v3 ((0 : Int32)).toNatClampNeg) (r7).toInt64) = 0 then fL_law_597 x9 k9 L9 xs9 rec23 v1 v2 v3 v4 M12 else some ((0 : Int32), M12) else none else fL_law_597 x9 k9 L9 xs9 rec23 v1 v2 v3 v4 M12 else some ((0 : Int32), M12)) else none) else none else none) else none
set_option maxRecDepth 100000 in
set_option maxHeartbeats 4000000 in
theorem tL_law_544 {x9 : Cx} {nm9 : String} {scr9 L9 : Nat} {xs9 : Nat → Int32} {K : Ct} {k9 : Nat} {M0 M9 : Mm} {Q9 : State → Prop} (hE : Ce x9 K RL cL_law 7 (some .boolean) 16 626 nm9 M0) (hl : K.2.1.stackTraces = false) (hS : Sc x9 K scr9 L9 xs9) (hfin : ∀ (lv : List (Nat × Value)) (pc : Nat) (M : Mm), decode cL_law pc = .ok (.ireturn, 1) → Go x9 K 7 Q9 pc lv [.int 1] M) {rec23 : Nat → Nat → Nat → Int32 → Mm → Option (Int32 × Mm)} (hrec23 : ∀ (v1 : Nat) (v2 : Nat) (v3 : Nat) (v4 : Int32) (M : Mm), rec23 v1 v2 v3 v4 M = some (1, M9) → Go x9 K 7 Q9 23 [(0, .ref scr9), (1, .ref v1), (2, .ref v2), (3, .ref v3), (4, .int v4)] [] M) (v1 : Nat) (v2 : Nat) (v3 : Nat) (v4 : Int32) (M : Mm) (h : fL_law_544 x9 k9 L9 xs9 rec23 v1 v2 v3 v4 M = some (1, M9)) : Go x9 K 7 Q9 544 [(0, .ref scr9), (1, .ref v1), (2, .ref v2), (3, .ref v3), (4, .int v4)] [] M := by
  have hC := hE.1
  have hnm := hE.2.2.2.2.2.2.2.1
  unfold fL_law_544 at h
  refine go_aload_n hC dL_law_544 rfl 1 rfl ?_
  refine go_aload_n hC dL_law_545 rfl 0 rfl ?_
  refine go_iload hC dL_law_546 4 rfl ?_
  refine go_iconst hC dL_law_548 (v := (1 : Int32)) (by decide +kernel) ?_
  refine go_iadd hC dL_law_549 ?_
  obtain ⟨h1, h⟩ := os_1 h
  refine go_sld hC hS h1 dL_law_550 ?_
  refine go_aload_n hC dL_law_551 rfl 3 rfl ?_
  obtain ⟨r2, M3, h4, h⟩ := os_c h
  refine go_callSH (bytes := cL_commit) (maxL := 4) (ret := (some .int)) (n := 3) (As := [.ref v1, .int (xs9 ((v4 + (1 : Int32))).toNatClampNeg), .ref v3]) (st := []) hE (c_L_commit K.2.1 hl h4) (by unfold okY; decide +kernel) rfl m_384 m_382 m_383 m_108 rfl (by simp [Value.category]) (by decide) (by decide) dL_law_552 ?_
  refine go_eq (pc' := 555) (st' := [.int r2]) (M' := M3) (lv' := [(0, .ref scr9), (1, .ref v1), (2, .ref v2), (3, .ref v3), (4, .int v4)]) ?_ rfl rfl rfl rfl
  refine go_istore (lv' := [(5, .int r2), (0, .ref scr9), (1, .ref v1), (2, .ref v2), (3, .ref v3), (4, .int v4)]) hC dL_law_555 (by decide) rfl ?_
  refine go_aload_n hC dL_law_557 rfl 3 rfl ?_
  refine go_aload_n hC dL_law_558 rfl 1 rfl ?_
  refine go_iload hC dL_law_559 5 rfl ?_
  refine go_iconst hC dL_law_561 (v := (1 : Int32)) (by decide +kernel) ?_
  refine go_iadd hC dL_law_562 ?_
  obtain ⟨h6, h⟩ := os_1 h
  refine go_sld hC hS h6 dL_law_563 ?_
  obtain ⟨h10, h⟩ := os_1 h
  obtain ⟨r7, M8, h9, h⟩ := os_c h
  refine go_callV (bytes := cX5_commit) (maxL := 5) (ret := (some .int)) (n := 1) (As := [.int (xs9 ((v4 + (1 : Int32))).toNatClampNeg)]) (st := []) hE (c_X5_commit K.2.1 h9) (by unfold okY; decide +kernel) rfl h10 rfl (C := RX5) (T := TX5) (N := 28) rfl m_479 m_476 m_477 m_478 m_5 rfl (by simp [Value.category]) (by decide) (by decide) dL_law_564 ?_
  refine go_eq (pc' := 567) (st' := [.int r7]) (M' := M8) (lv' := [(5, .int r2), (0, .ref scr9), (1, .ref v1), (2, .ref v2), (3, .ref v3), (4, .int v4)]) ?_ rfl rfl rfl rfl
  refine go_istore (lv' := [(6, .int r7), (5, .int r2), (0, .ref scr9), (1, .ref v1), (2, .ref v2), (3, .ref v3), (4, .int v4)]) hC dL_law_567 (by decide) rfl ?_
  refine go_aload_n hC dL_law_569 rfl 4 rfl ?_
  obtain ⟨h14, h⟩ := os_1 h
  obtain ⟨r11, M12, h13, h⟩ := os_c h
  refine go_callV (bytes := cX5_thrown) (maxL := 1) (ret := (some .int)) (n := 0) (As := []) (st := []) hE (c_X5_thrown K.2.1 h13) (by unfold okY; decide +kernel) rfl h14 rfl (C := RX5) (T := TX5) (N := 28) rfl m_132 m_129 m_130 m_131 m_5 rfl (by simp [Value.category]) (by decide) (by decide) dL_law_570 ?_
  refine go_eq (pc' := 573) (st' := [.int r11]) (M' := M12) (lv' := [(6, .int r7), (5, .int r2), (0, .ref scr9), (1, .ref v1), (2, .ref v2), (3, .ref v3), (4, .int v4)]) ?_ rfl rfl rfl rfl
  refine go_iload hC dL_law_573 1 rfl ?_
  refine go_icmp_eq (t := 580) hC dL_law_575 (by decide) (fun c15 => ?_) (fun c15 => ?_)
  · have h := os_t h c15
    refine go_iload hC dL_law_580 1 rfl ?_
    refine go_if_ne (t := 597) hC dL_law_582 (by decide) (fun c16 => ?_) (fun c16 => ?_)
    · have h := os_f h c16
      refine go_sub (lv' := [(0, .ref scr9), (1, .ref v1), (2, .ref v2), (3, .ref v3), (4, .int v4)]) [2, 3, 4, 5, 6] rfl ?_
      exact tL_law_597 hE hl hS hfin hrec23 _ _ _ _ _ h
    · have h := os_t h c16
      refine go_aload_n hC dL_law_585 rfl 5 rfl ?_
      refine go_iconst hC dL_law_586 (v := (0 : Int32)) (by decide +kernel) ?_
      obtain ⟨h17, h⟩ := os_1 h
      refine go_lald hC h17.1 h17.2 dL_law_587 ?_
      refine go_iload hC dL_law_588 0 rfl ?_
      refine go_i2l hC dL_law_590 ?_
      refine go_lcmp hC dL_law_591 ?_
      refine go_if_eq (t := 597) hC dL_law_592 (by decide) (fun c18 => ?_) (fun c18 => ?_)
      · have h := os_t h c18
        refine go_sub (lv' := [(0, .ref scr9), (1, .ref v1), (2, .ref v2), (3, .ref v3), (4, .int v4)]) [2, 3, 4, 5, 6] rfl ?_
        exact tL_law_597 hE hl hS hfin hrec23 _ _ _ _ _ h
      · have h := os_f h c18
        refine go_iconst hC dL_law_595 (v := (0 : Int32)) (by decide +kernel) ?_
        exact absurd (show (0 : Int32) = 1 from congrArg Prod.fst (Option.some.inj h)) (by decide)
  · have h := os_f h c15
    refine go_iconst hC dL_law_578 (v := (0 : Int32)) (by decide +kernel) ?_
    exact absurd (show (0 : Int32) = 1 from congrArg Prod.fst (Option.some.inj h)) (by decide)
def fL_law_600 (x9 : Cx) (k9 : Nat) (L9 : Nat) (xs9 : Nat → Int32) (rec23 : Nat → Nat → Nat → Int32 → Mm → Option (Int32 × Mm)) (v1 : Nat) (v2 : Nat) (v3 : Nat) (v4 : Int32) (M : Mm) : Option (Int32 × Mm) :=
  if ¬ ((v4 + (1 : Int32)) < 0 ∨ L9 ≤ ((v4 + (1 : Int32))).toNatClampNeg) then ob2 (fL_abort x9 k9 v1 (xs9 ((v4 + (1 : Int32))).toNatClampNeg) M) (fun r2 M3 => if ¬ ((v4 + (1 : Int32)) < 0 ∨ L9 ≤ ((v4 + (1 : Int32))).toNatClampNeg) then if mK M3 v2 = 6 then ob2 (fX5_abort x9 k9 v2 (xs9 ((v4 + (1 : Int32))).toNatClampNeg) M3) (fun r7 M8 => if mK M8 v2 = 6 then ob2 (fX5_thrown x9 k9 v2 M8) (fun r11 M12 => if r11 = r2 then fL_law_1335 x9 k9 L9 xs9 rec23 v1 v2 v3 v4 M12 else some ((0 : Int32), M12)) else none) else none else none) else none
set_option maxRecDepth 100000 in
set_option maxHeartbeats 4000000 in
theorem tL_law_600 {x9 : Cx} {nm9 : String} {scr9 L9 : Nat} {xs9 : Nat → Int32} {K : Ct} {k9 : Nat} {M0 M9 : Mm} {Q9 : State → Prop} (hE : Ce x9 K RL cL_law 7 (some .boolean) 16 626 nm9 M0) (hl : K.2.1.stackTraces = false) (hS : Sc x9 K scr9 L9 xs9) (hfin : ∀ (lv : List (Nat × Value)) (pc : Nat) (M : Mm), decode cL_law pc = .ok (.ireturn, 1) → Go x9 K 7 Q9 pc lv [.int 1] M) {rec23 : Nat → Nat → Nat → Int32 → Mm → Option (Int32 × Mm)} (hrec23 : ∀ (v1 : Nat) (v2 : Nat) (v3 : Nat) (v4 : Int32) (M : Mm), rec23 v1 v2 v3 v4 M = some (1, M9) → Go x9 K 7 Q9 23 [(0, .ref scr9), (1, .ref v1), (2, .ref v2), (3, .ref v3), (4, .int v4)] [] M) (v1 : Nat) (v2 : Nat) (v3 : Nat) (v4 : Int32) (M : Mm) (h : fL_law_600 x9 k9 L9 xs9 rec23 v1 v2 v3 v4 M = some (1, M9)) : Go x9 K 7 Q9 600 [(0, .ref scr9), (1, .ref v1), (2, .ref v2), (3, .ref v3), (4, .int v4)] [] M := by
  have hC := hE.1
  have hnm := hE.2.2.2.2.2.2.2.1
  unfold fL_law_600 at h
  refine go_aload_n hC dL_law_600 rfl 1 rfl ?_
  refine go_aload_n hC dL_law_601 rfl 0 rfl ?_
  refine go_iload hC dL_law_602 4 rfl ?_
  refine go_iconst hC dL_law_604 (v := (1 : Int32)) (by decide +kernel) ?_
  refine go_iadd hC dL_law_605 ?_
  obtain ⟨h1, h⟩ := os_1 h
  refine go_sld hC hS h1 dL_law_606 ?_
  obtain ⟨r2, M3, h4, h⟩ := os_c h
  refine go_callSH (bytes := cL_abort) (maxL := 3) (ret := (some .int)) (n := 2) (As := [.ref v1, .int (xs9 ((v4 + (1 : Int32))).toNatClampNeg)]) (st := []) hE (c_L_abort K.2.1 hl h4) (by unfold okY; decide +kernel) rfl m_510 m_508 m_509 m_108 rfl (by simp [Value.category]) (by decide) (by decide) dL_law_607 ?_
  refine go_eq (pc' := 610) (st' := [.int r2]) (M' := M3) (lv' := [(0, .ref scr9), (1, .ref v1), (2, .ref v2), (3, .ref v3), (4, .int v4)]) ?_ rfl rfl rfl rfl
  refine go_istore (lv' := [(5, .int r2), (0, .ref scr9), (1, .ref v1), (2, .ref v2), (3, .ref v3), (4, .int v4)]) hC dL_law_610 (by decide) rfl ?_
  refine go_aload_n hC dL_law_612 rfl 3 rfl ?_
  refine go_aload_n hC dL_law_613 rfl 1 rfl ?_
  refine go_iload hC dL_law_614 5 rfl ?_
  refine go_iconst hC dL_law_616 (v := (1 : Int32)) (by decide +kernel) ?_
  refine go_iadd hC dL_law_617 ?_
  obtain ⟨h6, h⟩ := os_1 h
  refine go_sld hC hS h6 dL_law_618 ?_
  obtain ⟨h10, h⟩ := os_1 h
  obtain ⟨r7, M8, h9, h⟩ := os_c h
  refine go_callV (bytes := cX5_abort) (maxL := 2) (ret := none) (n := 1) (As := [.int (xs9 ((v4 + (1 : Int32))).toNatClampNeg)]) (st := []) hE (c_X5_abort K.2.1 h9) (by unfold okY; decide +kernel) rfl h10 rfl (C := RX5) (T := TX5) (N := 28) rfl m_518 m_515 m_516 m_517 m_5 rfl (by simp [Value.category]) (by decide) (by decide) dL_law_619 ?_
  refine go_eq (pc' := 622) (st' := []) (M' := M8) (lv' := [(5, .int r2), (0, .ref scr9), (1, .ref v1), (2, .ref v2), (3, .ref v3), (4, .int v4)]) ?_ rfl rfl rfl rfl
  refine go_aload_n hC dL_law_622 rfl 3 rfl ?_
  obtain ⟨h14, h⟩ := os_1 h
  obtain ⟨r11, M12, h13, h⟩ := os_c h
  refine go_callV (bytes := cX5_thrown) (maxL := 1) (ret := (some .int)) (n := 0) (As := []) (st := []) hE (c_X5_thrown K.2.1 h13) (by unfold okY; decide +kernel) rfl h14 rfl (C := RX5) (T := TX5) (N := 28) rfl m_132 m_129 m_130 m_131 m_5 rfl (by simp [Value.category]) (by decide) (by decide) dL_law_623 ?_
  refine go_eq (pc' := 626) (st' := [.int r11]) (M' := M12) (lv' := [(5, .int r2), (0, .ref scr9), (1, .ref v1), (2, .ref v2), (3, .ref v3), (4, .int v4)]) ?_ rfl rfl rfl rfl
  refine go_iload hC dL_law_626 0 rfl ?_
  refine go_icmp_eq (t := 633) hC dL_law_628 (by decide) (fun c15 => ?_) (fun c15 => ?_)
  · have h := os_t h c15
    refine go_goto (t := 1335) hC dL_law_633 (by decide) ?_
    refine go_sub (lv' := [(0, .ref scr9), (1, .ref v1), (2, .ref v2), (3, .ref v3), (4, .int v4)]) [1, 2, 3, 4, 5] rfl ?_
    exact tL_law_1335 hE hl hS hfin hrec23 _ _ _ _ _ h
  · have h := os_f h c15
    refine go_iconst hC dL_law_631 (v := (0 : Int32)) (by decide +kernel) ?_
    exact absurd (show (0 : Int32) = 1 from congrArg Prod.fst (Option.some.inj h)) (by decide)
def fL_law_689 (x9 : Cx) (k9 : Nat) (L9 : Nat) (xs9 : Nat → Int32) (rec23 : Nat → Nat → Nat → Int32 → Mm → Option (Int32 × Mm)) (v1 : Nat) (v2 : Nat) (v3 : Nat) (v4 : Int32) (M : Mm) : Option (Int32 × Mm) :=
  fL_law_1335 x9 k9 L9 xs9 rec23 v1 v2 v3 v4 M
set_option maxRecDepth 100000 in
set_option maxHeartbeats 4000000 in
theorem tL_law_689 {x9 : Cx} {nm9 : String} {scr9 L9 : Nat} {xs9 : Nat → Int32} {K : Ct} {k9 : Nat} {M0 M9 : Mm} {Q9 : State → Prop} (hE : Ce x9 K RL cL_law 7 (some .boolean) 16 626 nm9 M0) (hl : K.2.1.stackTraces = false) (hS : Sc x9 K scr9 L9 xs9) (hfin : ∀ (lv : List (Nat × Value)) (pc : Nat) (M : Mm), decode cL_law pc = .ok (.ireturn, 1) → Go x9 K 7 Q9 pc lv [.int 1] M) {rec23 : Nat → Nat → Nat → Int32 → Mm → Option (Int32 × Mm)} (hrec23 : ∀ (v1 : Nat) (v2 : Nat) (v3 : Nat) (v4 : Int32) (M : Mm), rec23 v1 v2 v3 v4 M = some (1, M9) → Go x9 K 7 Q9 23 [(0, .ref scr9), (1, .ref v1), (2, .ref v2), (3, .ref v3), (4, .int v4)] [] M) (v1 : Nat) (v2 : Nat) (v3 : Nat) (v4 : Int32) (M : Mm) (h : fL_law_689 x9 k9 L9 xs9 rec23 v1 v2 v3 v4 M = some (1, M9)) : Go x9 K 7 Q9 689 [(0, .ref scr9), (1, .ref v1), (2, .ref v2), (3, .ref v3), (4, .int v4)] [] M := by
  have hC := hE.1
  have hnm := hE.2.2.2.2.2.2.2.1
  unfold fL_law_689 at h
  refine go_goto (t := 1335) hC dL_law_689 (by decide) ?_
  exact tL_law_1335 hE hl hS hfin hrec23 _ _ _ _ _ h
def fL_law_636 (x9 : Cx) (k9 : Nat) (L9 : Nat) (xs9 : Nat → Int32) (rec23 : Nat → Nat → Nat → Int32 → Mm → Option (Int32 × Mm)) (v1 : Nat) (v2 : Nat) (v3 : Nat) (v4 : Int32) (M : Mm) : Option (Int32 × Mm) :=
  if ¬ ((v4 + (1 : Int32)) < 0 ∨ L9 ≤ ((v4 + (1 : Int32))).toNatClampNeg) then ob2 (fL_again x9 k9 v1 (xs9 ((v4 + (1 : Int32))).toNatClampNeg) v3 M) (fun r2 M3 => if ¬ ((v4 + (1 : Int32)) < 0 ∨ L9 ≤ ((v4 + (1 : Int32))).toNatClampNeg) then if mK M3 v2 = 6 then ob2 (fX5_again x9 k9 v2 (xs9 ((v4 + (1 : Int32))).toNatClampNeg) M3) (fun r7 M8 => if mK M8 v2 = 6 then ob2 (fX5_thrown x9 k9 v2 M8) (fun r11 M12 => if r11 = r2 then if r2 = 0 then if mK M12 v3 = 12 ∧ ¬ ((0 : Int32) < 0 ∨ mN M12 v3 ≤ ((0 : Int32)).toNatClampNeg) then if (lg_cmp (mJ M12 v3 ((0 : Int32)).toNatClampNeg) (r7).toInt64) = 0 then fL_law_689 x9 k9 L9 xs9 rec23 v1 v2 v3 v4 M12 else some ((0 : Int32), M12) else none else fL_law_689 x9 k9 L9 xs9 rec23 v1 v2 v3 v4 M12 else some ((0 : Int32), M12)) else none) else none else none) else none
set_option maxRecDepth 100000 in
set_option maxHeartbeats 4000000 in
theorem tL_law_636 {x9 : Cx} {nm9 : String} {scr9 L9 : Nat} {xs9 : Nat → Int32} {K : Ct} {k9 : Nat} {M0 M9 : Mm} {Q9 : State → Prop} (hE : Ce x9 K RL cL_law 7 (some .boolean) 16 626 nm9 M0) (hl : K.2.1.stackTraces = false) (hS : Sc x9 K scr9 L9 xs9) (hfin : ∀ (lv : List (Nat × Value)) (pc : Nat) (M : Mm), decode cL_law pc = .ok (.ireturn, 1) → Go x9 K 7 Q9 pc lv [.int 1] M) {rec23 : Nat → Nat → Nat → Int32 → Mm → Option (Int32 × Mm)} (hrec23 : ∀ (v1 : Nat) (v2 : Nat) (v3 : Nat) (v4 : Int32) (M : Mm), rec23 v1 v2 v3 v4 M = some (1, M9) → Go x9 K 7 Q9 23 [(0, .ref scr9), (1, .ref v1), (2, .ref v2), (3, .ref v3), (4, .int v4)] [] M) (v1 : Nat) (v2 : Nat) (v3 : Nat) (v4 : Int32) (M : Mm) (h : fL_law_636 x9 k9 L9 xs9 rec23 v1 v2 v3 v4 M = some (1, M9)) : Go x9 K 7 Q9 636 [(0, .ref scr9), (1, .ref v1), (2, .ref v2), (3, .ref v3), (4, .int v4)] [] M := by
  have hC := hE.1
  have hnm := hE.2.2.2.2.2.2.2.1
  unfold fL_law_636 at h
  refine go_aload_n hC dL_law_636 rfl 1 rfl ?_
  refine go_aload_n hC dL_law_637 rfl 0 rfl ?_
  refine go_iload hC dL_law_638 4 rfl ?_
  refine go_iconst hC dL_law_640 (v := (1 : Int32)) (by decide +kernel) ?_
  refine go_iadd hC dL_law_641 ?_
  obtain ⟨h1, h⟩ := os_1 h
  refine go_sld hC hS h1 dL_law_642 ?_
  refine go_aload_n hC dL_law_643 rfl 3 rfl ?_
  obtain ⟨r2, M3, h4, h⟩ := os_c h
  refine go_callSH (bytes := cL_again) (maxL := 4) (ret := (some .int)) (n := 3) (As := [.ref v1, .int (xs9 ((v4 + (1 : Int32))).toNatClampNeg), .ref v3]) (st := []) hE (c_L_again K.2.1 hl h4) (by unfold okY; decide +kernel) rfl m_521 m_519 m_520 m_108 rfl (by simp [Value.category]) (by decide) (by decide) dL_law_644 ?_
  refine go_eq (pc' := 647) (st' := [.int r2]) (M' := M3) (lv' := [(0, .ref scr9), (1, .ref v1), (2, .ref v2), (3, .ref v3), (4, .int v4)]) ?_ rfl rfl rfl rfl
  refine go_istore (lv' := [(5, .int r2), (0, .ref scr9), (1, .ref v1), (2, .ref v2), (3, .ref v3), (4, .int v4)]) hC dL_law_647 (by decide) rfl ?_
  refine go_aload_n hC dL_law_649 rfl 3 rfl ?_
  refine go_aload_n hC dL_law_650 rfl 1 rfl ?_
  refine go_iload hC dL_law_651 5 rfl ?_
  refine go_iconst hC dL_law_653 (v := (1 : Int32)) (by decide +kernel) ?_
  refine go_iadd hC dL_law_654 ?_
  obtain ⟨h6, h⟩ := os_1 h
  refine go_sld hC hS h6 dL_law_655 ?_
  obtain ⟨h10, h⟩ := os_1 h
  obtain ⟨r7, M8, h9, h⟩ := os_c h
  refine go_callV (bytes := cX5_again) (maxL := 5) (ret := (some .int)) (n := 1) (As := [.int (xs9 ((v4 + (1 : Int32))).toNatClampNeg)]) (st := []) hE (c_X5_again K.2.1 h9) (by unfold okY; decide +kernel) rfl h10 rfl (C := RX5) (T := TX5) (N := 28) rfl m_530 m_527 m_528 m_529 m_5 rfl (by simp [Value.category]) (by decide) (by decide) dL_law_656 ?_
  refine go_eq (pc' := 659) (st' := [.int r7]) (M' := M8) (lv' := [(5, .int r2), (0, .ref scr9), (1, .ref v1), (2, .ref v2), (3, .ref v3), (4, .int v4)]) ?_ rfl rfl rfl rfl
  refine go_istore (lv' := [(6, .int r7), (5, .int r2), (0, .ref scr9), (1, .ref v1), (2, .ref v2), (3, .ref v3), (4, .int v4)]) hC dL_law_659 (by decide) rfl ?_
  refine go_aload_n hC dL_law_661 rfl 4 rfl ?_
  obtain ⟨h14, h⟩ := os_1 h
  obtain ⟨r11, M12, h13, h⟩ := os_c h
  refine go_callV (bytes := cX5_thrown) (maxL := 1) (ret := (some .int)) (n := 0) (As := []) (st := []) hE (c_X5_thrown K.2.1 h13) (by unfold okY; decide +kernel) rfl h14 rfl (C := RX5) (T := TX5) (N := 28) rfl m_132 m_129 m_130 m_131 m_5 rfl (by simp [Value.category]) (by decide) (by decide) dL_law_662 ?_
  refine go_eq (pc' := 665) (st' := [.int r11]) (M' := M12) (lv' := [(6, .int r7), (5, .int r2), (0, .ref scr9), (1, .ref v1), (2, .ref v2), (3, .ref v3), (4, .int v4)]) ?_ rfl rfl rfl rfl
  refine go_iload hC dL_law_665 1 rfl ?_
  refine go_icmp_eq (t := 672) hC dL_law_667 (by decide) (fun c15 => ?_) (fun c15 => ?_)
  · have h := os_t h c15
    refine go_iload hC dL_law_672 1 rfl ?_
    refine go_if_ne (t := 689) hC dL_law_674 (by decide) (fun c16 => ?_) (fun c16 => ?_)
    · have h := os_f h c16
      refine go_sub (lv' := [(0, .ref scr9), (1, .ref v1), (2, .ref v2), (3, .ref v3), (4, .int v4)]) [2, 3, 4, 5, 6] rfl ?_
      exact tL_law_689 hE hl hS hfin hrec23 _ _ _ _ _ h
    · have h := os_t h c16
      refine go_aload_n hC dL_law_677 rfl 5 rfl ?_
      refine go_iconst hC dL_law_678 (v := (0 : Int32)) (by decide +kernel) ?_
      obtain ⟨h17, h⟩ := os_1 h
      refine go_lald hC h17.1 h17.2 dL_law_679 ?_
      refine go_iload hC dL_law_680 0 rfl ?_
      refine go_i2l hC dL_law_682 ?_
      refine go_lcmp hC dL_law_683 ?_
      refine go_if_eq (t := 689) hC dL_law_684 (by decide) (fun c18 => ?_) (fun c18 => ?_)
      · have h := os_t h c18
        refine go_sub (lv' := [(0, .ref scr9), (1, .ref v1), (2, .ref v2), (3, .ref v3), (4, .int v4)]) [2, 3, 4, 5, 6] rfl ?_
        exact tL_law_689 hE hl hS hfin hrec23 _ _ _ _ _ h
      · have h := os_f h c18
        refine go_iconst hC dL_law_687 (v := (0 : Int32)) (by decide +kernel) ?_
        exact absurd (show (0 : Int32) = 1 from congrArg Prod.fst (Option.some.inj h)) (by decide)
  · have h := os_f h c15
    refine go_iconst hC dL_law_670 (v := (0 : Int32)) (by decide +kernel) ?_
    exact absurd (show (0 : Int32) = 1 from congrArg Prod.fst (Option.some.inj h)) (by decide)
def fL_law_745 (x9 : Cx) (k9 : Nat) (L9 : Nat) (xs9 : Nat → Int32) (rec23 : Nat → Nat → Nat → Int32 → Mm → Option (Int32 × Mm)) (v1 : Nat) (v2 : Nat) (v3 : Nat) (v4 : Int32) (M : Mm) : Option (Int32 × Mm) :=
  fL_law_1335 x9 k9 L9 xs9 rec23 v1 v2 v3 v4 M
set_option maxRecDepth 100000 in
set_option maxHeartbeats 4000000 in
theorem tL_law_745 {x9 : Cx} {nm9 : String} {scr9 L9 : Nat} {xs9 : Nat → Int32} {K : Ct} {k9 : Nat} {M0 M9 : Mm} {Q9 : State → Prop} (hE : Ce x9 K RL cL_law 7 (some .boolean) 16 626 nm9 M0) (hl : K.2.1.stackTraces = false) (hS : Sc x9 K scr9 L9 xs9) (hfin : ∀ (lv : List (Nat × Value)) (pc : Nat) (M : Mm), decode cL_law pc = .ok (.ireturn, 1) → Go x9 K 7 Q9 pc lv [.int 1] M) {rec23 : Nat → Nat → Nat → Int32 → Mm → Option (Int32 × Mm)} (hrec23 : ∀ (v1 : Nat) (v2 : Nat) (v3 : Nat) (v4 : Int32) (M : Mm), rec23 v1 v2 v3 v4 M = some (1, M9) → Go x9 K 7 Q9 23 [(0, .ref scr9), (1, .ref v1), (2, .ref v2), (3, .ref v3), (4, .int v4)] [] M) (v1 : Nat) (v2 : Nat) (v3 : Nat) (v4 : Int32) (M : Mm) (h : fL_law_745 x9 k9 L9 xs9 rec23 v1 v2 v3 v4 M = some (1, M9)) : Go x9 K 7 Q9 745 [(0, .ref scr9), (1, .ref v1), (2, .ref v2), (3, .ref v3), (4, .int v4)] [] M := by
  have hC := hE.1
  have hnm := hE.2.2.2.2.2.2.2.1
  unfold fL_law_745 at h
  refine go_goto (t := 1335) hC dL_law_745 (by decide) ?_
  exact tL_law_1335 hE hl hS hfin hrec23 _ _ _ _ _ h
def fL_law_692 (x9 : Cx) (k9 : Nat) (L9 : Nat) (xs9 : Nat → Int32) (rec23 : Nat → Nat → Nat → Int32 → Mm → Option (Int32 × Mm)) (v1 : Nat) (v2 : Nat) (v3 : Nat) (v4 : Int32) (M : Mm) : Option (Int32 × Mm) :=
  if ¬ ((v4 + (1 : Int32)) < 0 ∨ L9 ≤ ((v4 + (1 : Int32))).toNatClampNeg) then ob2 (fL_deliver x9 k9 v1 (xs9 ((v4 + (1 : Int32))).toNatClampNeg) v3 M) (fun r2 M3 => if ¬ ((v4 + (1 : Int32)) < 0 ∨ L9 ≤ ((v4 + (1 : Int32))).toNatClampNeg) then if mK M3 v2 = 6 then ob2 (fX5_deliver x9 k9 v2 (xs9 ((v4 + (1 : Int32))).toNatClampNeg) M3) (fun r7 M8 => if mK M8 v2 = 6 then ob2 (fX5_thrown x9 k9 v2 M8) (fun r11 M12 => if r11 = r2 then if r2 = 0 then if mK M12 v3 = 12 ∧ ¬ ((0 : Int32) < 0 ∨ mN M12 v3 ≤ ((0 : Int32)).toNatClampNeg) then if (lg_cmp (mJ M12 v3 ((0 : Int32)).toNatClampNeg) (r7).toInt64) = 0 then fL_law_745 x9 k9 L9 xs9 rec23 v1 v2 v3 v4 M12 else some ((0 : Int32), M12) else none else fL_law_745 x9 k9 L9 xs9 rec23 v1 v2 v3 v4 M12 else some ((0 : Int32), M12)) else none) else none else none) else none
set_option maxRecDepth 100000 in
set_option maxHeartbeats 4000000 in
theorem tL_law_692 {x9 : Cx} {nm9 : String} {scr9 L9 : Nat} {xs9 : Nat → Int32} {K : Ct} {k9 : Nat} {M0 M9 : Mm} {Q9 : State → Prop} (hE : Ce x9 K RL cL_law 7 (some .boolean) 16 626 nm9 M0) (hl : K.2.1.stackTraces = false) (hS : Sc x9 K scr9 L9 xs9) (hfin : ∀ (lv : List (Nat × Value)) (pc : Nat) (M : Mm), decode cL_law pc = .ok (.ireturn, 1) → Go x9 K 7 Q9 pc lv [.int 1] M) {rec23 : Nat → Nat → Nat → Int32 → Mm → Option (Int32 × Mm)} (hrec23 : ∀ (v1 : Nat) (v2 : Nat) (v3 : Nat) (v4 : Int32) (M : Mm), rec23 v1 v2 v3 v4 M = some (1, M9) → Go x9 K 7 Q9 23 [(0, .ref scr9), (1, .ref v1), (2, .ref v2), (3, .ref v3), (4, .int v4)] [] M) (v1 : Nat) (v2 : Nat) (v3 : Nat) (v4 : Int32) (M : Mm) (h : fL_law_692 x9 k9 L9 xs9 rec23 v1 v2 v3 v4 M = some (1, M9)) : Go x9 K 7 Q9 692 [(0, .ref scr9), (1, .ref v1), (2, .ref v2), (3, .ref v3), (4, .int v4)] [] M := by
  have hC := hE.1
  have hnm := hE.2.2.2.2.2.2.2.1
  unfold fL_law_692 at h
  refine go_aload_n hC dL_law_692 rfl 1 rfl ?_
  refine go_aload_n hC dL_law_693 rfl 0 rfl ?_
  refine go_iload hC dL_law_694 4 rfl ?_
  refine go_iconst hC dL_law_696 (v := (1 : Int32)) (by decide +kernel) ?_
  refine go_iadd hC dL_law_697 ?_
  obtain ⟨h1, h⟩ := os_1 h
  refine go_sld hC hS h1 dL_law_698 ?_
  refine go_aload_n hC dL_law_699 rfl 3 rfl ?_
  obtain ⟨r2, M3, h4, h⟩ := os_c h
  refine go_callSH (bytes := cL_deliver) (maxL := 4) (ret := (some .int)) (n := 3) (As := [.ref v1, .int (xs9 ((v4 + (1 : Int32))).toNatClampNeg), .ref v3]) (st := []) hE (c_L_deliver K.2.1 hl h4) (by unfold okY; decide +kernel) rfl m_533 m_531 m_532 m_108 rfl (by simp [Value.category]) (by decide) (by decide) dL_law_700 ?_
  refine go_eq (pc' := 703) (st' := [.int r2]) (M' := M3) (lv' := [(0, .ref scr9), (1, .ref v1), (2, .ref v2), (3, .ref v3), (4, .int v4)]) ?_ rfl rfl rfl rfl
  refine go_istore (lv' := [(5, .int r2), (0, .ref scr9), (1, .ref v1), (2, .ref v2), (3, .ref v3), (4, .int v4)]) hC dL_law_703 (by decide) rfl ?_
  refine go_aload_n hC dL_law_705 rfl 3 rfl ?_
  refine go_aload_n hC dL_law_706 rfl 1 rfl ?_
  refine go_iload hC dL_law_707 5 rfl ?_
  refine go_iconst hC dL_law_709 (v := (1 : Int32)) (by decide +kernel) ?_
  refine go_iadd hC dL_law_710 ?_
  obtain ⟨h6, h⟩ := os_1 h
  refine go_sld hC hS h6 dL_law_711 ?_
  obtain ⟨h10, h⟩ := os_1 h
  obtain ⟨r7, M8, h9, h⟩ := os_c h
  refine go_callV (bytes := cX5_deliver) (maxL := 6) (ret := (some .int)) (n := 1) (As := [.int (xs9 ((v4 + (1 : Int32))).toNatClampNeg)]) (st := []) hE (c_X5_deliver K.2.1 h9) (by unfold okY; decide +kernel) rfl h10 rfl (C := RX5) (T := TX5) (N := 28) rfl m_611 m_608 m_609 m_610 m_5 rfl (by simp [Value.category]) (by decide) (by decide) dL_law_712 ?_
  refine go_eq (pc' := 715) (st' := [.int r7]) (M' := M8) (lv' := [(5, .int r2), (0, .ref scr9), (1, .ref v1), (2, .ref v2), (3, .ref v3), (4, .int v4)]) ?_ rfl rfl rfl rfl
  refine go_istore (lv' := [(6, .int r7), (5, .int r2), (0, .ref scr9), (1, .ref v1), (2, .ref v2), (3, .ref v3), (4, .int v4)]) hC dL_law_715 (by decide) rfl ?_
  refine go_aload_n hC dL_law_717 rfl 4 rfl ?_
  obtain ⟨h14, h⟩ := os_1 h
  obtain ⟨r11, M12, h13, h⟩ := os_c h
  refine go_callV (bytes := cX5_thrown) (maxL := 1) (ret := (some .int)) (n := 0) (As := []) (st := []) hE (c_X5_thrown K.2.1 h13) (by unfold okY; decide +kernel) rfl h14 rfl (C := RX5) (T := TX5) (N := 28) rfl m_132 m_129 m_130 m_131 m_5 rfl (by simp [Value.category]) (by decide) (by decide) dL_law_718 ?_
  refine go_eq (pc' := 721) (st' := [.int r11]) (M' := M12) (lv' := [(6, .int r7), (5, .int r2), (0, .ref scr9), (1, .ref v1), (2, .ref v2), (3, .ref v3), (4, .int v4)]) ?_ rfl rfl rfl rfl
  refine go_iload hC dL_law_721 1 rfl ?_
  refine go_icmp_eq (t := 728) hC dL_law_723 (by decide) (fun c15 => ?_) (fun c15 => ?_)
  · have h := os_t h c15
    refine go_iload hC dL_law_728 1 rfl ?_
    refine go_if_ne (t := 745) hC dL_law_730 (by decide) (fun c16 => ?_) (fun c16 => ?_)
    · have h := os_f h c16
      refine go_sub (lv' := [(0, .ref scr9), (1, .ref v1), (2, .ref v2), (3, .ref v3), (4, .int v4)]) [2, 3, 4, 5, 6] rfl ?_
      exact tL_law_745 hE hl hS hfin hrec23 _ _ _ _ _ h
    · have h := os_t h c16
      refine go_aload_n hC dL_law_733 rfl 5 rfl ?_
      refine go_iconst hC dL_law_734 (v := (0 : Int32)) (by decide +kernel) ?_
      obtain ⟨h17, h⟩ := os_1 h
      refine go_lald hC h17.1 h17.2 dL_law_735 ?_
      refine go_iload hC dL_law_736 0 rfl ?_
      refine go_i2l hC dL_law_738 ?_
      refine go_lcmp hC dL_law_739 ?_
      refine go_if_eq (t := 745) hC dL_law_740 (by decide) (fun c18 => ?_) (fun c18 => ?_)
      · have h := os_t h c18
        refine go_sub (lv' := [(0, .ref scr9), (1, .ref v1), (2, .ref v2), (3, .ref v3), (4, .int v4)]) [2, 3, 4, 5, 6] rfl ?_
        exact tL_law_745 hE hl hS hfin hrec23 _ _ _ _ _ h
      · have h := os_f h c18
        refine go_iconst hC dL_law_743 (v := (0 : Int32)) (by decide +kernel) ?_
        exact absurd (show (0 : Int32) = 1 from congrArg Prod.fst (Option.some.inj h)) (by decide)
  · have h := os_f h c15
    refine go_iconst hC dL_law_726 (v := (0 : Int32)) (by decide +kernel) ?_
    exact absurd (show (0 : Int32) = 1 from congrArg Prod.fst (Option.some.inj h)) (by decide)
def fL_law_801 (x9 : Cx) (k9 : Nat) (L9 : Nat) (xs9 : Nat → Int32) (rec23 : Nat → Nat → Nat → Int32 → Mm → Option (Int32 × Mm)) (v1 : Nat) (v2 : Nat) (v3 : Nat) (v4 : Int32) (M : Mm) : Option (Int32 × Mm) :=
  fL_law_1335 x9 k9 L9 xs9 rec23 v1 v2 v3 v4 M
set_option maxRecDepth 100000 in
set_option maxHeartbeats 4000000 in
theorem tL_law_801 {x9 : Cx} {nm9 : String} {scr9 L9 : Nat} {xs9 : Nat → Int32} {K : Ct} {k9 : Nat} {M0 M9 : Mm} {Q9 : State → Prop} (hE : Ce x9 K RL cL_law 7 (some .boolean) 16 626 nm9 M0) (hl : K.2.1.stackTraces = false) (hS : Sc x9 K scr9 L9 xs9) (hfin : ∀ (lv : List (Nat × Value)) (pc : Nat) (M : Mm), decode cL_law pc = .ok (.ireturn, 1) → Go x9 K 7 Q9 pc lv [.int 1] M) {rec23 : Nat → Nat → Nat → Int32 → Mm → Option (Int32 × Mm)} (hrec23 : ∀ (v1 : Nat) (v2 : Nat) (v3 : Nat) (v4 : Int32) (M : Mm), rec23 v1 v2 v3 v4 M = some (1, M9) → Go x9 K 7 Q9 23 [(0, .ref scr9), (1, .ref v1), (2, .ref v2), (3, .ref v3), (4, .int v4)] [] M) (v1 : Nat) (v2 : Nat) (v3 : Nat) (v4 : Int32) (M : Mm) (h : fL_law_801 x9 k9 L9 xs9 rec23 v1 v2 v3 v4 M = some (1, M9)) : Go x9 K 7 Q9 801 [(0, .ref scr9), (1, .ref v1), (2, .ref v2), (3, .ref v3), (4, .int v4)] [] M := by
  have hC := hE.1
  have hnm := hE.2.2.2.2.2.2.2.1
  unfold fL_law_801 at h
  refine go_goto (t := 1335) hC dL_law_801 (by decide) ?_
  exact tL_law_1335 hE hl hS hfin hrec23 _ _ _ _ _ h
def fL_law_748 (x9 : Cx) (k9 : Nat) (L9 : Nat) (xs9 : Nat → Int32) (rec23 : Nat → Nat → Nat → Int32 → Mm → Option (Int32 × Mm)) (v1 : Nat) (v2 : Nat) (v3 : Nat) (v4 : Int32) (M : Mm) : Option (Int32 × Mm) :=
  if ¬ ((v4 + (1 : Int32)) < 0 ∨ L9 ≤ ((v4 + (1 : Int32))).toNatClampNeg) then ob2 (fL_drop x9 k9 v1 (xs9 ((v4 + (1 : Int32))).toNatClampNeg) v3 M) (fun r2 M3 => if ¬ ((v4 + (1 : Int32)) < 0 ∨ L9 ≤ ((v4 + (1 : Int32))).toNatClampNeg) then if mK M3 v2 = 6 then ob2 (fX5_drop x9 k9 v2 (xs9 ((v4 + (1 : Int32))).toNatClampNeg) M3) (fun r7 M8 => if mK M8 v2 = 6 then ob2 (fX5_thrown x9 k9 v2 M8) (fun r11 M12 => if r11 = r2 then if r2 = 0 then if mK M12 v3 = 12 ∧ ¬ ((0 : Int32) < 0 ∨ mN M12 v3 ≤ ((0 : Int32)).toNatClampNeg) then if (lg_cmp (mJ M12 v3 ((0 : Int32)).toNatClampNeg) (r7).toInt64) = 0 then fL_law_801 x9 k9 L9 xs9 rec23 v1 v2 v3 v4 M12 else some ((0 : Int32), M12) else none else fL_law_801 x9 k9 L9 xs9 rec23 v1 v2 v3 v4 M12 else some ((0 : Int32), M12)) else none) else none else none) else none
set_option maxRecDepth 100000 in
set_option maxHeartbeats 4000000 in
theorem tL_law_748 {x9 : Cx} {nm9 : String} {scr9 L9 : Nat} {xs9 : Nat → Int32} {K : Ct} {k9 : Nat} {M0 M9 : Mm} {Q9 : State → Prop} (hE : Ce x9 K RL cL_law 7 (some .boolean) 16 626 nm9 M0) (hl : K.2.1.stackTraces = false) (hS : Sc x9 K scr9 L9 xs9) (hfin : ∀ (lv : List (Nat × Value)) (pc : Nat) (M : Mm), decode cL_law pc = .ok (.ireturn, 1) → Go x9 K 7 Q9 pc lv [.int 1] M) {rec23 : Nat → Nat → Nat → Int32 → Mm → Option (Int32 × Mm)} (hrec23 : ∀ (v1 : Nat) (v2 : Nat) (v3 : Nat) (v4 : Int32) (M : Mm), rec23 v1 v2 v3 v4 M = some (1, M9) → Go x9 K 7 Q9 23 [(0, .ref scr9), (1, .ref v1), (2, .ref v2), (3, .ref v3), (4, .int v4)] [] M) (v1 : Nat) (v2 : Nat) (v3 : Nat) (v4 : Int32) (M : Mm) (h : fL_law_748 x9 k9 L9 xs9 rec23 v1 v2 v3 v4 M = some (1, M9)) : Go x9 K 7 Q9 748 [(0, .ref scr9), (1, .ref v1), (2, .ref v2), (3, .ref v3), (4, .int v4)] [] M := by
  have hC := hE.1
  have hnm := hE.2.2.2.2.2.2.2.1
  unfold fL_law_748 at h
  refine go_aload_n hC dL_law_748 rfl 1 rfl ?_
  refine go_aload_n hC dL_law_749 rfl 0 rfl ?_
  refine go_iload hC dL_law_750 4 rfl ?_
  refine go_iconst hC dL_law_752 (v := (1 : Int32)) (by decide +kernel) ?_
  refine go_iadd hC dL_law_753 ?_
  obtain ⟨h1, h⟩ := os_1 h
  refine go_sld hC hS h1 dL_law_754 ?_
  refine go_aload_n hC dL_law_755 rfl 3 rfl ?_
  obtain ⟨r2, M3, h4, h⟩ := os_c h
  refine go_callSH (bytes := cL_drop) (maxL := 4) (ret := (some .int)) (n := 3) (As := [.ref v1, .int (xs9 ((v4 + (1 : Int32))).toNatClampNeg), .ref v3]) (st := []) hE (c_L_drop K.2.1 hl h4) (by unfold okY; decide +kernel) rfl m_634 m_632 m_633 m_108 rfl (by simp [Value.category]) (by decide) (by decide) dL_law_756 ?_
  refine go_eq (pc' := 759) (st' := [.int r2]) (M' := M3) (lv' := [(0, .ref scr9), (1, .ref v1), (2, .ref v2), (3, .ref v3), (4, .int v4)]) ?_ rfl rfl rfl rfl
  refine go_istore (lv' := [(5, .int r2), (0, .ref scr9), (1, .ref v1), (2, .ref v2), (3, .ref v3), (4, .int v4)]) hC dL_law_759 (by decide) rfl ?_
  refine go_aload_n hC dL_law_761 rfl 3 rfl ?_
  refine go_aload_n hC dL_law_762 rfl 1 rfl ?_
  refine go_iload hC dL_law_763 5 rfl ?_
  refine go_iconst hC dL_law_765 (v := (1 : Int32)) (by decide +kernel) ?_
  refine go_iadd hC dL_law_766 ?_
  obtain ⟨h6, h⟩ := os_1 h
  refine go_sld hC hS h6 dL_law_767 ?_
  obtain ⟨h10, h⟩ := os_1 h
  obtain ⟨r7, M8, h9, h⟩ := os_c h
  refine go_callV (bytes := cX5_drop) (maxL := 3) (ret := (some .int)) (n := 1) (As := [.int (xs9 ((v4 + (1 : Int32))).toNatClampNeg)]) (st := []) hE (c_X5_drop K.2.1 h9) (by unfold okY; decide +kernel) rfl h10 rfl (C := RX5) (T := TX5) (N := 28) rfl m_642 m_639 m_640 m_641 m_5 rfl (by simp [Value.category]) (by decide) (by decide) dL_law_768 ?_
  refine go_eq (pc' := 771) (st' := [.int r7]) (M' := M8) (lv' := [(5, .int r2), (0, .ref scr9), (1, .ref v1), (2, .ref v2), (3, .ref v3), (4, .int v4)]) ?_ rfl rfl rfl rfl
  refine go_istore (lv' := [(6, .int r7), (5, .int r2), (0, .ref scr9), (1, .ref v1), (2, .ref v2), (3, .ref v3), (4, .int v4)]) hC dL_law_771 (by decide) rfl ?_
  refine go_aload_n hC dL_law_773 rfl 4 rfl ?_
  obtain ⟨h14, h⟩ := os_1 h
  obtain ⟨r11, M12, h13, h⟩ := os_c h
  refine go_callV (bytes := cX5_thrown) (maxL := 1) (ret := (some .int)) (n := 0) (As := []) (st := []) hE (c_X5_thrown K.2.1 h13) (by unfold okY; decide +kernel) rfl h14 rfl (C := RX5) (T := TX5) (N := 28) rfl m_132 m_129 m_130 m_131 m_5 rfl (by simp [Value.category]) (by decide) (by decide) dL_law_774 ?_
  refine go_eq (pc' := 777) (st' := [.int r11]) (M' := M12) (lv' := [(6, .int r7), (5, .int r2), (0, .ref scr9), (1, .ref v1), (2, .ref v2), (3, .ref v3), (4, .int v4)]) ?_ rfl rfl rfl rfl
  refine go_iload hC dL_law_777 1 rfl ?_
  refine go_icmp_eq (t := 784) hC dL_law_779 (by decide) (fun c15 => ?_) (fun c15 => ?_)
  · have h := os_t h c15
    refine go_iload hC dL_law_784 1 rfl ?_
    refine go_if_ne (t := 801) hC dL_law_786 (by decide) (fun c16 => ?_) (fun c16 => ?_)
    · have h := os_f h c16
      refine go_sub (lv' := [(0, .ref scr9), (1, .ref v1), (2, .ref v2), (3, .ref v3), (4, .int v4)]) [2, 3, 4, 5, 6] rfl ?_
      exact tL_law_801 hE hl hS hfin hrec23 _ _ _ _ _ h
    · have h := os_t h c16
      refine go_aload_n hC dL_law_789 rfl 5 rfl ?_
      refine go_iconst hC dL_law_790 (v := (0 : Int32)) (by decide +kernel) ?_
      obtain ⟨h17, h⟩ := os_1 h
      refine go_lald hC h17.1 h17.2 dL_law_791 ?_
      refine go_iload hC dL_law_792 0 rfl ?_
      refine go_i2l hC dL_law_794 ?_
      refine go_lcmp hC dL_law_795 ?_
      refine go_if_eq (t := 801) hC dL_law_796 (by decide) (fun c18 => ?_) (fun c18 => ?_)
      · have h := os_t h c18
        refine go_sub (lv' := [(0, .ref scr9), (1, .ref v1), (2, .ref v2), (3, .ref v3), (4, .int v4)]) [2, 3, 4, 5, 6] rfl ?_
        exact tL_law_801 hE hl hS hfin hrec23 _ _ _ _ _ h
      · have h := os_f h c18
        refine go_iconst hC dL_law_799 (v := (0 : Int32)) (by decide +kernel) ?_
        exact absurd (show (0 : Int32) = 1 from congrArg Prod.fst (Option.some.inj h)) (by decide)
  · have h := os_f h c15
    refine go_iconst hC dL_law_782 (v := (0 : Int32)) (by decide +kernel) ?_
    exact absurd (show (0 : Int32) = 1 from congrArg Prod.fst (Option.some.inj h)) (by decide)
def fL_law_864 (x9 : Cx) (k9 : Nat) (L9 : Nat) (xs9 : Nat → Int32) (rec23 : Nat → Nat → Nat → Int32 → Mm → Option (Int32 × Mm)) (v1 : Nat) (v2 : Nat) (v3 : Nat) (v4 : Int32) (M : Mm) : Option (Int32 × Mm) :=
  fL_law_1335 x9 k9 L9 xs9 rec23 v1 v2 v3 v4 M
set_option maxRecDepth 100000 in
set_option maxHeartbeats 4000000 in
theorem tL_law_864 {x9 : Cx} {nm9 : String} {scr9 L9 : Nat} {xs9 : Nat → Int32} {K : Ct} {k9 : Nat} {M0 M9 : Mm} {Q9 : State → Prop} (hE : Ce x9 K RL cL_law 7 (some .boolean) 16 626 nm9 M0) (hl : K.2.1.stackTraces = false) (hS : Sc x9 K scr9 L9 xs9) (hfin : ∀ (lv : List (Nat × Value)) (pc : Nat) (M : Mm), decode cL_law pc = .ok (.ireturn, 1) → Go x9 K 7 Q9 pc lv [.int 1] M) {rec23 : Nat → Nat → Nat → Int32 → Mm → Option (Int32 × Mm)} (hrec23 : ∀ (v1 : Nat) (v2 : Nat) (v3 : Nat) (v4 : Int32) (M : Mm), rec23 v1 v2 v3 v4 M = some (1, M9) → Go x9 K 7 Q9 23 [(0, .ref scr9), (1, .ref v1), (2, .ref v2), (3, .ref v3), (4, .int v4)] [] M) (v1 : Nat) (v2 : Nat) (v3 : Nat) (v4 : Int32) (M : Mm) (h : fL_law_864 x9 k9 L9 xs9 rec23 v1 v2 v3 v4 M = some (1, M9)) : Go x9 K 7 Q9 864 [(0, .ref scr9), (1, .ref v1), (2, .ref v2), (3, .ref v3), (4, .int v4)] [] M := by
  have hC := hE.1
  have hnm := hE.2.2.2.2.2.2.2.1
  unfold fL_law_864 at h
  refine go_goto (t := 1335) hC dL_law_864 (by decide) ?_
  exact tL_law_1335 hE hl hS hfin hrec23 _ _ _ _ _ h
def fL_law_858 (x9 : Cx) (k9 : Nat) (L9 : Nat) (xs9 : Nat → Int32) (rec23 : Nat → Nat → Nat → Int32 → Mm → Option (Int32 × Mm)) (v1 : Nat) (v2 : Nat) (v3 : Nat) (v4 : Int32) (s0 : Int64) (s1 : Int64) (M : Mm) : Option (Int32 × Mm) :=
  if (lg_cmp s0 s1) = 0 then fL_law_864 x9 k9 L9 xs9 rec23 v1 v2 v3 v4 M else some ((0 : Int32), M)
set_option maxRecDepth 100000 in
set_option maxHeartbeats 4000000 in
theorem tL_law_858 {x9 : Cx} {nm9 : String} {scr9 L9 : Nat} {xs9 : Nat → Int32} {K : Ct} {k9 : Nat} {M0 M9 : Mm} {Q9 : State → Prop} (hE : Ce x9 K RL cL_law 7 (some .boolean) 16 626 nm9 M0) (hl : K.2.1.stackTraces = false) (hS : Sc x9 K scr9 L9 xs9) (hfin : ∀ (lv : List (Nat × Value)) (pc : Nat) (M : Mm), decode cL_law pc = .ok (.ireturn, 1) → Go x9 K 7 Q9 pc lv [.int 1] M) {rec23 : Nat → Nat → Nat → Int32 → Mm → Option (Int32 × Mm)} (hrec23 : ∀ (v1 : Nat) (v2 : Nat) (v3 : Nat) (v4 : Int32) (M : Mm), rec23 v1 v2 v3 v4 M = some (1, M9) → Go x9 K 7 Q9 23 [(0, .ref scr9), (1, .ref v1), (2, .ref v2), (3, .ref v3), (4, .int v4)] [] M) (v1 : Nat) (v2 : Nat) (v3 : Nat) (v4 : Int32) (s0 : Int64) (s1 : Int64) (M : Mm) (h : fL_law_858 x9 k9 L9 xs9 rec23 v1 v2 v3 v4 s0 s1 M = some (1, M9)) : Go x9 K 7 Q9 858 [(0, .ref scr9), (1, .ref v1), (2, .ref v2), (3, .ref v3), (4, .int v4)] [.long s1, .long s0] M := by
  have hC := hE.1
  have hnm := hE.2.2.2.2.2.2.2.1
  unfold fL_law_858 at h
  refine go_lcmp hC dL_law_858 ?_
  refine go_if_eq (t := 864) hC dL_law_859 (by decide) (fun c1 => ?_) (fun c1 => ?_)
  · have h := os_t h c1
    exact tL_law_864 hE hl hS hfin hrec23 _ _ _ _ _ h
  · have h := os_f h c1
    refine go_iconst hC dL_law_862 (v := (0 : Int32)) (by decide +kernel) ?_
    exact absurd (show (0 : Int32) = 1 from congrArg Prod.fst (Option.some.inj h)) (by decide)
def fL_law_804 (x9 : Cx) (k9 : Nat) (L9 : Nat) (xs9 : Nat → Int32) (rec23 : Nat → Nat → Nat → Int32 → Mm → Option (Int32 × Mm)) (v1 : Nat) (v2 : Nat) (v3 : Nat) (v4 : Int32) (M : Mm) : Option (Int32 × Mm) :=
  if ¬ ((v4 + (1 : Int32)) < 0 ∨ L9 ≤ ((v4 + (1 : Int32))).toNatClampNeg) then ob2 (fL_copy x9 k9 v1 (xs9 ((v4 + (1 : Int32))).toNatClampNeg) v3 M) (fun r2 M3 => if ¬ ((v4 + (1 : Int32)) < 0 ∨ L9 ≤ ((v4 + (1 : Int32))).toNatClampNeg) then if mK M3 v2 = 6 then ob2 (fX5_copy x9 k9 v2 (xs9 ((v4 + (1 : Int32))).toNatClampNeg) M3) (fun r7 M8 => if mK M8 v2 = 6 then ob2 (fX5_thrown x9 k9 v2 M8) (fun r11 M12 => if r11 = r2 then if r2 = 0 then if mK M12 v3 = 12 ∧ ¬ ((0 : Int32) < 0 ∨ mN M12 v3 ≤ ((0 : Int32)).toNatClampNeg) then if r7 = 0 then fL_law_858 x9 k9 L9 xs9 rec23 v1 v2 v3 v4 (mJ M12 v3 ((0 : Int32)).toNatClampNeg) (0 : Int64) M12 else fL_law_858 x9 k9 L9 xs9 rec23 v1 v2 v3 v4 (mJ M12 v3 ((0 : Int32)).toNatClampNeg) (1 : Int64) M12 else none else fL_law_864 x9 k9 L9 xs9 rec23 v1 v2 v3 v4 M12 else some ((0 : Int32), M12)) else none) else none else none) else none
set_option maxRecDepth 100000 in
set_option maxHeartbeats 4000000 in
theorem tL_law_804 {x9 : Cx} {nm9 : String} {scr9 L9 : Nat} {xs9 : Nat → Int32} {K : Ct} {k9 : Nat} {M0 M9 : Mm} {Q9 : State → Prop} (hE : Ce x9 K RL cL_law 7 (some .boolean) 16 626 nm9 M0) (hl : K.2.1.stackTraces = false) (hS : Sc x9 K scr9 L9 xs9) (hfin : ∀ (lv : List (Nat × Value)) (pc : Nat) (M : Mm), decode cL_law pc = .ok (.ireturn, 1) → Go x9 K 7 Q9 pc lv [.int 1] M) {rec23 : Nat → Nat → Nat → Int32 → Mm → Option (Int32 × Mm)} (hrec23 : ∀ (v1 : Nat) (v2 : Nat) (v3 : Nat) (v4 : Int32) (M : Mm), rec23 v1 v2 v3 v4 M = some (1, M9) → Go x9 K 7 Q9 23 [(0, .ref scr9), (1, .ref v1), (2, .ref v2), (3, .ref v3), (4, .int v4)] [] M) (v1 : Nat) (v2 : Nat) (v3 : Nat) (v4 : Int32) (M : Mm) (h : fL_law_804 x9 k9 L9 xs9 rec23 v1 v2 v3 v4 M = some (1, M9)) : Go x9 K 7 Q9 804 [(0, .ref scr9), (1, .ref v1), (2, .ref v2), (3, .ref v3), (4, .int v4)] [] M := by
  have hC := hE.1
  have hnm := hE.2.2.2.2.2.2.2.1
  unfold fL_law_804 at h
  refine go_aload_n hC dL_law_804 rfl 1 rfl ?_
  refine go_aload_n hC dL_law_805 rfl 0 rfl ?_
  refine go_iload hC dL_law_806 4 rfl ?_
  refine go_iconst hC dL_law_808 (v := (1 : Int32)) (by decide +kernel) ?_
  refine go_iadd hC dL_law_809 ?_
  obtain ⟨h1, h⟩ := os_1 h
  refine go_sld hC hS h1 dL_law_810 ?_
  refine go_aload_n hC dL_law_811 rfl 3 rfl ?_
  obtain ⟨r2, M3, h4, h⟩ := os_c h
  refine go_callSH (bytes := cL_copy) (maxL := 4) (ret := (some .int)) (n := 3) (As := [.ref v1, .int (xs9 ((v4 + (1 : Int32))).toNatClampNeg), .ref v3]) (st := []) hE (c_L_copy K.2.1 hl h4) (by unfold okY; decide +kernel) rfl m_645 m_643 m_644 m_108 rfl (by simp [Value.category]) (by decide) (by decide) dL_law_812 ?_
  refine go_eq (pc' := 815) (st' := [.int r2]) (M' := M3) (lv' := [(0, .ref scr9), (1, .ref v1), (2, .ref v2), (3, .ref v3), (4, .int v4)]) ?_ rfl rfl rfl rfl
  refine go_istore (lv' := [(5, .int r2), (0, .ref scr9), (1, .ref v1), (2, .ref v2), (3, .ref v3), (4, .int v4)]) hC dL_law_815 (by decide) rfl ?_
  refine go_aload_n hC dL_law_817 rfl 3 rfl ?_
  refine go_aload_n hC dL_law_818 rfl 1 rfl ?_
  refine go_iload hC dL_law_819 5 rfl ?_
  refine go_iconst hC dL_law_821 (v := (1 : Int32)) (by decide +kernel) ?_
  refine go_iadd hC dL_law_822 ?_
  obtain ⟨h6, h⟩ := os_1 h
  refine go_sld hC hS h6 dL_law_823 ?_
  obtain ⟨h10, h⟩ := os_1 h
  obtain ⟨r7, M8, h9, h⟩ := os_c h
  refine go_callV (bytes := cX5_copy) (maxL := 3) (ret := (some .boolean)) (n := 1) (As := [.int (xs9 ((v4 + (1 : Int32))).toNatClampNeg)]) (st := []) hE (c_X5_copy K.2.1 h9) (by unfold okY; decide +kernel) rfl h10 rfl (C := RX5) (T := TX5) (N := 28) rfl m_653 m_650 m_651 m_652 m_5 rfl (by simp [Value.category]) (by decide) (by decide) dL_law_824 ?_
  refine go_eq (pc' := 827) (st' := [.int r7]) (M' := M8) (lv' := [(5, .int r2), (0, .ref scr9), (1, .ref v1), (2, .ref v2), (3, .ref v3), (4, .int v4)]) ?_ rfl rfl rfl rfl
  refine go_istore (lv' := [(6, .int r7), (5, .int r2), (0, .ref scr9), (1, .ref v1), (2, .ref v2), (3, .ref v3), (4, .int v4)]) hC dL_law_827 (by decide) rfl ?_
  refine go_aload_n hC dL_law_829 rfl 4 rfl ?_
  obtain ⟨h14, h⟩ := os_1 h
  obtain ⟨r11, M12, h13, h⟩ := os_c h
  refine go_callV (bytes := cX5_thrown) (maxL := 1) (ret := (some .int)) (n := 0) (As := []) (st := []) hE (c_X5_thrown K.2.1 h13) (by unfold okY; decide +kernel) rfl h14 rfl (C := RX5) (T := TX5) (N := 28) rfl m_132 m_129 m_130 m_131 m_5 rfl (by simp [Value.category]) (by decide) (by decide) dL_law_830 ?_
  refine go_eq (pc' := 833) (st' := [.int r11]) (M' := M12) (lv' := [(6, .int r7), (5, .int r2), (0, .ref scr9), (1, .ref v1), (2, .ref v2), (3, .ref v3), (4, .int v4)]) ?_ rfl rfl rfl rfl
  refine go_iload hC dL_law_833 1 rfl ?_
  refine go_icmp_eq (t := 840) hC dL_law_835 (by decide) (fun c15 => ?_) (fun c15 => ?_)
  · have h := os_t h c15
    refine go_iload hC dL_law_840 1 rfl ?_
    refine go_if_ne (t := 864) hC dL_law_842 (by decide) (fun c16 => ?_) (fun c16 => ?_)
    · have h := os_f h c16
      refine go_sub (lv' := [(0, .ref scr9), (1, .ref v1), (2, .ref v2), (3, .ref v3), (4, .int v4)]) [2, 3, 4, 5, 6] rfl ?_
      exact tL_law_864 hE hl hS hfin hrec23 _ _ _ _ _ h
    · have h := os_t h c16
      refine go_aload_n hC dL_law_845 rfl 5 rfl ?_
      refine go_iconst hC dL_law_846 (v := (0 : Int32)) (by decide +kernel) ?_
      obtain ⟨h17, h⟩ := os_1 h
      refine go_lald hC h17.1 h17.2 dL_law_847 ?_
      refine go_iload hC dL_law_848 0 rfl ?_
      refine go_if_eq (t := 857) hC dL_law_850 (by decide) (fun c18 => ?_) (fun c18 => ?_)
      · have h := os_t h c18
        refine go_lconst hC dL_law_857 (v := (0 : Int64)) (by decide +kernel) ?_
        refine go_sub (lv' := [(0, .ref scr9), (1, .ref v1), (2, .ref v2), (3, .ref v3), (4, .int v4)]) [2, 3, 4, 5, 6] rfl ?_
        exact tL_law_858 hE hl hS hfin hrec23 _ _ _ _ _ _ _ h
      · have h := os_f h c18
        refine go_lconst hC dL_law_853 (v := (1 : Int64)) (by decide +kernel) ?_
        refine go_goto (t := 858) hC dL_law_854 (by decide) ?_
        refine go_sub (lv' := [(0, .ref scr9), (1, .ref v1), (2, .ref v2), (3, .ref v3), (4, .int v4)]) [2, 3, 4, 5, 6] rfl ?_
        exact tL_law_858 hE hl hS hfin hrec23 _ _ _ _ _ _ _ h
  · have h := os_f h c15
    refine go_iconst hC dL_law_838 (v := (0 : Int32)) (by decide +kernel) ?_
    exact absurd (show (0 : Int32) = 1 from congrArg Prod.fst (Option.some.inj h)) (by decide)
def fL_law_932 (x9 : Cx) (k9 : Nat) (L9 : Nat) (xs9 : Nat → Int32) (rec23 : Nat → Nat → Nat → Int32 → Mm → Option (Int32 × Mm)) (v1 : Nat) (v2 : Nat) (v3 : Nat) (v4 : Int32) (M : Mm) : Option (Int32 × Mm) :=
  fL_law_1335 x9 k9 L9 xs9 rec23 v1 v2 v3 v4 M
set_option maxRecDepth 100000 in
set_option maxHeartbeats 4000000 in
theorem tL_law_932 {x9 : Cx} {nm9 : String} {scr9 L9 : Nat} {xs9 : Nat → Int32} {K : Ct} {k9 : Nat} {M0 M9 : Mm} {Q9 : State → Prop} (hE : Ce x9 K RL cL_law 7 (some .boolean) 16 626 nm9 M0) (hl : K.2.1.stackTraces = false) (hS : Sc x9 K scr9 L9 xs9) (hfin : ∀ (lv : List (Nat × Value)) (pc : Nat) (M : Mm), decode cL_law pc = .ok (.ireturn, 1) → Go x9 K 7 Q9 pc lv [.int 1] M) {rec23 : Nat → Nat → Nat → Int32 → Mm → Option (Int32 × Mm)} (hrec23 : ∀ (v1 : Nat) (v2 : Nat) (v3 : Nat) (v4 : Int32) (M : Mm), rec23 v1 v2 v3 v4 M = some (1, M9) → Go x9 K 7 Q9 23 [(0, .ref scr9), (1, .ref v1), (2, .ref v2), (3, .ref v3), (4, .int v4)] [] M) (v1 : Nat) (v2 : Nat) (v3 : Nat) (v4 : Int32) (M : Mm) (h : fL_law_932 x9 k9 L9 xs9 rec23 v1 v2 v3 v4 M = some (1, M9)) : Go x9 K 7 Q9 932 [(0, .ref scr9), (1, .ref v1), (2, .ref v2), (3, .ref v3), (4, .int v4)] [] M := by
  have hC := hE.1
  have hnm := hE.2.2.2.2.2.2.2.1
  unfold fL_law_932 at h
  refine go_goto (t := 1335) hC dL_law_932 (by decide) ?_
  exact tL_law_1335 hE hl hS hfin hrec23 _ _ _ _ _ h
def fL_law_867 (x9 : Cx) (k9 : Nat) (L9 : Nat) (xs9 : Nat → Int32) (rec23 : Nat → Nat → Nat → Int32 → Mm → Option (Int32 × Mm)) (v1 : Nat) (v2 : Nat) (v3 : Nat) (v4 : Int32) (M : Mm) : Option (Int32 × Mm) :=
  if ¬ ((v4 + (1 : Int32)) < 0 ∨ L9 ≤ ((v4 + (1 : Int32))).toNatClampNeg) then if ¬ ((v4 + (2 : Int32)) < 0 ∨ L9 ≤ ((v4 + (2 : Int32))).toNatClampNeg) then ob2 (fL_byteOf x9 k9 v1 (xs9 ((v4 + (1 : Int32))).toNatClampNeg) (xs9 ((v4 + (2 : Int32))).toNatClampNeg) v3 M) (fun r3 M4 => if ¬ ((v4 + (1 : Int32)) < 0 ∨ L9 ≤ ((v4 + (1 : Int32))).toNatClampNeg) then if ¬ ((v4 + (2 : Int32)) < 0 ∨ L9 ≤ ((v4 + (2 : Int32))).toNatClampNeg) then if mK M4 v2 = 6 then ob2 (fX5_byteOf x9 k9 v2 (xs9 ((v4 + (1 : Int32))).toNatClampNeg) (xs9 ((v4 + (2 : Int32))).toNatClampNeg) M4) (fun r9 M10 => if mK M10 v2 = 6 then ob2 (fX5_thrown x9 k9 v2 M10) (fun r13 M14 => if r13 = r3 then if r3 = 0 then if mK M14 v3 = 12 ∧ ¬ ((0 : Int32) < 0 ∨ mN M14 v3 ≤ ((0 : Int32)).toNatClampNeg) then if (lg_cmp (mJ M14 v3 ((0 : Int32)).toNatClampNeg) (r9).toInt64) = 0 then fL_law_932 x9 k9 L9 xs9 rec23 v1 v2 v3 v4 M14 else some ((0 : Int32), M14) else none else fL_law_932 x9 k9 L9 xs9 rec23 v1 v2 v3 v4 M14 else some ((0 : Int32), M14)) else none) else none else none else none) else none else none
set_option maxRecDepth 100000 in
set_option maxHeartbeats 4000000 in
theorem tL_law_867 {x9 : Cx} {nm9 : String} {scr9 L9 : Nat} {xs9 : Nat → Int32} {K : Ct} {k9 : Nat} {M0 M9 : Mm} {Q9 : State → Prop} (hE : Ce x9 K RL cL_law 7 (some .boolean) 16 626 nm9 M0) (hl : K.2.1.stackTraces = false) (hS : Sc x9 K scr9 L9 xs9) (hfin : ∀ (lv : List (Nat × Value)) (pc : Nat) (M : Mm), decode cL_law pc = .ok (.ireturn, 1) → Go x9 K 7 Q9 pc lv [.int 1] M) {rec23 : Nat → Nat → Nat → Int32 → Mm → Option (Int32 × Mm)} (hrec23 : ∀ (v1 : Nat) (v2 : Nat) (v3 : Nat) (v4 : Int32) (M : Mm), rec23 v1 v2 v3 v4 M = some (1, M9) → Go x9 K 7 Q9 23 [(0, .ref scr9), (1, .ref v1), (2, .ref v2), (3, .ref v3), (4, .int v4)] [] M) (v1 : Nat) (v2 : Nat) (v3 : Nat) (v4 : Int32) (M : Mm) (h : fL_law_867 x9 k9 L9 xs9 rec23 v1 v2 v3 v4 M = some (1, M9)) : Go x9 K 7 Q9 867 [(0, .ref scr9), (1, .ref v1), (2, .ref v2), (3, .ref v3), (4, .int v4)] [] M := by
  have hC := hE.1
  have hnm := hE.2.2.2.2.2.2.2.1
  unfold fL_law_867 at h
  refine go_aload_n hC dL_law_867 rfl 1 rfl ?_
  refine go_aload_n hC dL_law_868 rfl 0 rfl ?_
  refine go_iload hC dL_law_869 4 rfl ?_
  refine go_iconst hC dL_law_871 (v := (1 : Int32)) (by decide +kernel) ?_
  refine go_iadd hC dL_law_872 ?_
  obtain ⟨h1, h⟩ := os_1 h
  refine go_sld hC hS h1 dL_law_873 ?_
  refine go_aload_n hC dL_law_874 rfl 0 rfl ?_
  refine go_iload hC dL_law_875 4 rfl ?_
  refine go_iconst hC dL_law_877 (v := (2 : Int32)) (by decide +kernel) ?_
  refine go_iadd hC dL_law_878 ?_
  obtain ⟨h2, h⟩ := os_1 h
  refine go_sld hC hS h2 dL_law_879 ?_
  refine go_aload_n hC dL_law_880 rfl 3 rfl ?_
  obtain ⟨r3, M4, h5, h⟩ := os_c h
  refine go_callSH (bytes := cL_byteOf) (maxL := 5) (ret := (some .int)) (n := 4) (As := [.ref v1, .int (xs9 ((v4 + (1 : Int32))).toNatClampNeg), .int (xs9 ((v4 + (2 : Int32))).toNatClampNeg), .ref v3]) (st := []) hE (c_L_byteOf K.2.1 hl h5) (by unfold okY; decide +kernel) rfl m_656 m_654 m_655 m_108 rfl (by simp [Value.category]) (by decide) (by decide) dL_law_881 ?_
  refine go_eq (pc' := 884) (st' := [.int r3]) (M' := M4) (lv' := [(0, .ref scr9), (1, .ref v1), (2, .ref v2), (3, .ref v3), (4, .int v4)]) ?_ rfl rfl rfl rfl
  refine go_istore (lv' := [(5, .int r3), (0, .ref scr9), (1, .ref v1), (2, .ref v2), (3, .ref v3), (4, .int v4)]) hC dL_law_884 (by decide) rfl ?_
  refine go_aload_n hC dL_law_886 rfl 3 rfl ?_
  refine go_aload_n hC dL_law_887 rfl 1 rfl ?_
  refine go_iload hC dL_law_888 5 rfl ?_
  refine go_iconst hC dL_law_890 (v := (1 : Int32)) (by decide +kernel) ?_
  refine go_iadd hC dL_law_891 ?_
  obtain ⟨h7, h⟩ := os_1 h
  refine go_sld hC hS h7 dL_law_892 ?_
  refine go_aload_n hC dL_law_893 rfl 1 rfl ?_
  refine go_iload hC dL_law_894 5 rfl ?_
  refine go_iconst hC dL_law_896 (v := (2 : Int32)) (by decide +kernel) ?_
  refine go_iadd hC dL_law_897 ?_
  obtain ⟨h8, h⟩ := os_1 h
  refine go_sld hC hS h8 dL_law_898 ?_
  obtain ⟨h12, h⟩ := os_1 h
  obtain ⟨r9, M10, h11, h⟩ := os_c h
  refine go_callV (bytes := cX5_byteOf) (maxL := 8) (ret := (some .int)) (n := 2) (As := [.int (xs9 ((v4 + (1 : Int32))).toNatClampNeg), .int (xs9 ((v4 + (2 : Int32))).toNatClampNeg)]) (st := []) hE (c_X5_byteOf K.2.1 h11) (by unfold okY; decide +kernel) rfl h12 rfl (C := RX5) (T := TX5) (N := 28) rfl m_712 m_709 m_710 m_711 m_5 rfl (by simp [Value.category]) (by decide) (by decide) dL_law_899 ?_
  refine go_eq (pc' := 902) (st' := [.int r9]) (M' := M10) (lv' := [(5, .int r3), (0, .ref scr9), (1, .ref v1), (2, .ref v2), (3, .ref v3), (4, .int v4)]) ?_ rfl rfl rfl rfl
  refine go_istore (lv' := [(6, .int r9), (5, .int r3), (0, .ref scr9), (1, .ref v1), (2, .ref v2), (3, .ref v3), (4, .int v4)]) hC dL_law_902 (by decide) rfl ?_
  refine go_aload_n hC dL_law_904 rfl 4 rfl ?_
  obtain ⟨h16, h⟩ := os_1 h
  obtain ⟨r13, M14, h15, h⟩ := os_c h
  refine go_callV (bytes := cX5_thrown) (maxL := 1) (ret := (some .int)) (n := 0) (As := []) (st := []) hE (c_X5_thrown K.2.1 h15) (by unfold okY; decide +kernel) rfl h16 rfl (C := RX5) (T := TX5) (N := 28) rfl m_132 m_129 m_130 m_131 m_5 rfl (by simp [Value.category]) (by decide) (by decide) dL_law_905 ?_
  refine go_eq (pc' := 908) (st' := [.int r13]) (M' := M14) (lv' := [(6, .int r9), (5, .int r3), (0, .ref scr9), (1, .ref v1), (2, .ref v2), (3, .ref v3), (4, .int v4)]) ?_ rfl rfl rfl rfl
  refine go_iload hC dL_law_908 1 rfl ?_
  refine go_icmp_eq (t := 915) hC dL_law_910 (by decide) (fun c17 => ?_) (fun c17 => ?_)
  · have h := os_t h c17
    refine go_iload hC dL_law_915 1 rfl ?_
    refine go_if_ne (t := 932) hC dL_law_917 (by decide) (fun c18 => ?_) (fun c18 => ?_)
    · have h := os_f h c18
      refine go_sub (lv' := [(0, .ref scr9), (1, .ref v1), (2, .ref v2), (3, .ref v3), (4, .int v4)]) [2, 3, 4, 5, 6] rfl ?_
      exact tL_law_932 hE hl hS hfin hrec23 _ _ _ _ _ h
    · have h := os_t h c18
      refine go_aload_n hC dL_law_920 rfl 5 rfl ?_
      refine go_iconst hC dL_law_921 (v := (0 : Int32)) (by decide +kernel) ?_
      obtain ⟨h19, h⟩ := os_1 h
      refine go_lald hC h19.1 h19.2 dL_law_922 ?_
      refine go_iload hC dL_law_923 0 rfl ?_
      refine go_i2l hC dL_law_925 ?_
      refine go_lcmp hC dL_law_926 ?_
      refine go_if_eq (t := 932) hC dL_law_927 (by decide) (fun c20 => ?_) (fun c20 => ?_)
      · have h := os_t h c20
        refine go_sub (lv' := [(0, .ref scr9), (1, .ref v1), (2, .ref v2), (3, .ref v3), (4, .int v4)]) [2, 3, 4, 5, 6] rfl ?_
        exact tL_law_932 hE hl hS hfin hrec23 _ _ _ _ _ h
      · have h := os_f h c20
        refine go_iconst hC dL_law_930 (v := (0 : Int32)) (by decide +kernel) ?_
        exact absurd (show (0 : Int32) = 1 from congrArg Prod.fst (Option.some.inj h)) (by decide)
  · have h := os_f h c17
    refine go_iconst hC dL_law_913 (v := (0 : Int32)) (by decide +kernel) ?_
    exact absurd (show (0 : Int32) = 1 from congrArg Prod.fst (Option.some.inj h)) (by decide)
def fL_law_935 (x9 : Cx) (k9 : Nat) (L9 : Nat) (xs9 : Nat → Int32) (rec23 : Nat → Nat → Nat → Int32 → Mm → Option (Int32 × Mm)) (v1 : Nat) (v2 : Nat) (v3 : Nat) (v4 : Int32) (M : Mm) : Option (Int32 × Mm) :=
  if ¬ ((v4 + (1 : Int32)) < 0 ∨ L9 ≤ ((v4 + (1 : Int32))).toNatClampNeg) then ob2 (fL_crash x9 k9 v1 (xs9 ((v4 + (1 : Int32))).toNatClampNeg) M) (fun r2 M3 => if ¬ ((v4 + (1 : Int32)) < 0 ∨ L9 ≤ ((v4 + (1 : Int32))).toNatClampNeg) then if mK M3 v2 = 6 then ob2 (fX5_crash x9 k9 v2 (xs9 ((v4 + (1 : Int32))).toNatClampNeg) M3) (fun r7 M8 => if mK M8 v2 = 6 then ob2 (fX5_thrown x9 k9 v2 M8) (fun r11 M12 => if r11 = r2 then fL_law_1335 x9 k9 L9 xs9 rec23 v1 v2 v3 v4 M12 else some ((0 : Int32), M12)) else none) else none else none) else none
set_option maxRecDepth 100000 in
set_option maxHeartbeats 4000000 in
theorem tL_law_935 {x9 : Cx} {nm9 : String} {scr9 L9 : Nat} {xs9 : Nat → Int32} {K : Ct} {k9 : Nat} {M0 M9 : Mm} {Q9 : State → Prop} (hE : Ce x9 K RL cL_law 7 (some .boolean) 16 626 nm9 M0) (hl : K.2.1.stackTraces = false) (hS : Sc x9 K scr9 L9 xs9) (hfin : ∀ (lv : List (Nat × Value)) (pc : Nat) (M : Mm), decode cL_law pc = .ok (.ireturn, 1) → Go x9 K 7 Q9 pc lv [.int 1] M) {rec23 : Nat → Nat → Nat → Int32 → Mm → Option (Int32 × Mm)} (hrec23 : ∀ (v1 : Nat) (v2 : Nat) (v3 : Nat) (v4 : Int32) (M : Mm), rec23 v1 v2 v3 v4 M = some (1, M9) → Go x9 K 7 Q9 23 [(0, .ref scr9), (1, .ref v1), (2, .ref v2), (3, .ref v3), (4, .int v4)] [] M) (v1 : Nat) (v2 : Nat) (v3 : Nat) (v4 : Int32) (M : Mm) (h : fL_law_935 x9 k9 L9 xs9 rec23 v1 v2 v3 v4 M = some (1, M9)) : Go x9 K 7 Q9 935 [(0, .ref scr9), (1, .ref v1), (2, .ref v2), (3, .ref v3), (4, .int v4)] [] M := by
  have hC := hE.1
  have hnm := hE.2.2.2.2.2.2.2.1
  unfold fL_law_935 at h
  refine go_aload_n hC dL_law_935 rfl 1 rfl ?_
  refine go_aload_n hC dL_law_936 rfl 0 rfl ?_
  refine go_iload hC dL_law_937 4 rfl ?_
  refine go_iconst hC dL_law_939 (v := (1 : Int32)) (by decide +kernel) ?_
  refine go_iadd hC dL_law_940 ?_
  obtain ⟨h1, h⟩ := os_1 h
  refine go_sld hC hS h1 dL_law_941 ?_
  obtain ⟨r2, M3, h4, h⟩ := os_c h
  refine go_callSH (bytes := cL_crash) (maxL := 3) (ret := (some .int)) (n := 2) (As := [.ref v1, .int (xs9 ((v4 + (1 : Int32))).toNatClampNeg)]) (st := []) hE (c_L_crash K.2.1 hl h4) (by unfold okY; decide +kernel) rfl m_729 m_727 m_728 m_108 rfl (by simp [Value.category]) (by decide) (by decide) dL_law_942 ?_
  refine go_eq (pc' := 945) (st' := [.int r2]) (M' := M3) (lv' := [(0, .ref scr9), (1, .ref v1), (2, .ref v2), (3, .ref v3), (4, .int v4)]) ?_ rfl rfl rfl rfl
  refine go_istore (lv' := [(5, .int r2), (0, .ref scr9), (1, .ref v1), (2, .ref v2), (3, .ref v3), (4, .int v4)]) hC dL_law_945 (by decide) rfl ?_
  refine go_aload_n hC dL_law_947 rfl 3 rfl ?_
  refine go_aload_n hC dL_law_948 rfl 1 rfl ?_
  refine go_iload hC dL_law_949 5 rfl ?_
  refine go_iconst hC dL_law_951 (v := (1 : Int32)) (by decide +kernel) ?_
  refine go_iadd hC dL_law_952 ?_
  obtain ⟨h6, h⟩ := os_1 h
  refine go_sld hC hS h6 dL_law_953 ?_
  obtain ⟨h10, h⟩ := os_1 h
  obtain ⟨r7, M8, h9, h⟩ := os_c h
  refine go_callV (bytes := cX5_crash) (maxL := 3) (ret := none) (n := 1) (As := [.int (xs9 ((v4 + (1 : Int32))).toNatClampNeg)]) (st := []) hE (c_X5_crash K.2.1 h9) (by unfold okY; decide +kernel) rfl h10 rfl (C := RX5) (T := TX5) (N := 28) rfl m_741 m_738 m_739 m_740 m_5 rfl (by simp [Value.category]) (by decide) (by decide) dL_law_954 ?_
  refine go_eq (pc' := 957) (st' := []) (M' := M8) (lv' := [(5, .int r2), (0, .ref scr9), (1, .ref v1), (2, .ref v2), (3, .ref v3), (4, .int v4)]) ?_ rfl rfl rfl rfl
  refine go_aload_n hC dL_law_957 rfl 3 rfl ?_
  obtain ⟨h14, h⟩ := os_1 h
  obtain ⟨r11, M12, h13, h⟩ := os_c h
  refine go_callV (bytes := cX5_thrown) (maxL := 1) (ret := (some .int)) (n := 0) (As := []) (st := []) hE (c_X5_thrown K.2.1 h13) (by unfold okY; decide +kernel) rfl h14 rfl (C := RX5) (T := TX5) (N := 28) rfl m_132 m_129 m_130 m_131 m_5 rfl (by simp [Value.category]) (by decide) (by decide) dL_law_958 ?_
  refine go_eq (pc' := 961) (st' := [.int r11]) (M' := M12) (lv' := [(5, .int r2), (0, .ref scr9), (1, .ref v1), (2, .ref v2), (3, .ref v3), (4, .int v4)]) ?_ rfl rfl rfl rfl
  refine go_iload hC dL_law_961 0 rfl ?_
  refine go_icmp_eq (t := 968) hC dL_law_963 (by decide) (fun c15 => ?_) (fun c15 => ?_)
  · have h := os_t h c15
    refine go_goto (t := 1335) hC dL_law_968 (by decide) ?_
    refine go_sub (lv' := [(0, .ref scr9), (1, .ref v1), (2, .ref v2), (3, .ref v3), (4, .int v4)]) [1, 2, 3, 4, 5] rfl ?_
    exact tL_law_1335 hE hl hS hfin hrec23 _ _ _ _ _ h
  · have h := os_f h c15
    refine go_iconst hC dL_law_966 (v := (0 : Int32)) (by decide +kernel) ?_
    exact absurd (show (0 : Int32) = 1 from congrArg Prod.fst (Option.some.inj h)) (by decide)
def fL_law_971 (x9 : Cx) (k9 : Nat) (L9 : Nat) (xs9 : Nat → Int32) (rec23 : Nat → Nat → Nat → Int32 → Mm → Option (Int32 × Mm)) (v1 : Nat) (v2 : Nat) (v3 : Nat) (v4 : Int32) (M : Mm) : Option (Int32 × Mm) :=
  if ¬ ((v4 + (1 : Int32)) < 0 ∨ L9 ≤ ((v4 + (1 : Int32))).toNatClampNeg) then ob2 (fL_restart x9 k9 v1 (xs9 ((v4 + (1 : Int32))).toNatClampNeg) M) (fun r2 M3 => if ¬ ((v4 + (1 : Int32)) < 0 ∨ L9 ≤ ((v4 + (1 : Int32))).toNatClampNeg) then if mK M3 v2 = 6 then ob2 (fX5_restart x9 k9 v2 (xs9 ((v4 + (1 : Int32))).toNatClampNeg) M3) (fun r7 M8 => if mK M8 v2 = 6 then ob2 (fX5_thrown x9 k9 v2 M8) (fun r11 M12 => if r11 = r2 then fL_law_1335 x9 k9 L9 xs9 rec23 v1 v2 v3 v4 M12 else some ((0 : Int32), M12)) else none) else none else none) else none
set_option maxRecDepth 100000 in
set_option maxHeartbeats 4000000 in
theorem tL_law_971 {x9 : Cx} {nm9 : String} {scr9 L9 : Nat} {xs9 : Nat → Int32} {K : Ct} {k9 : Nat} {M0 M9 : Mm} {Q9 : State → Prop} (hE : Ce x9 K RL cL_law 7 (some .boolean) 16 626 nm9 M0) (hl : K.2.1.stackTraces = false) (hS : Sc x9 K scr9 L9 xs9) (hfin : ∀ (lv : List (Nat × Value)) (pc : Nat) (M : Mm), decode cL_law pc = .ok (.ireturn, 1) → Go x9 K 7 Q9 pc lv [.int 1] M) {rec23 : Nat → Nat → Nat → Int32 → Mm → Option (Int32 × Mm)} (hrec23 : ∀ (v1 : Nat) (v2 : Nat) (v3 : Nat) (v4 : Int32) (M : Mm), rec23 v1 v2 v3 v4 M = some (1, M9) → Go x9 K 7 Q9 23 [(0, .ref scr9), (1, .ref v1), (2, .ref v2), (3, .ref v3), (4, .int v4)] [] M) (v1 : Nat) (v2 : Nat) (v3 : Nat) (v4 : Int32) (M : Mm) (h : fL_law_971 x9 k9 L9 xs9 rec23 v1 v2 v3 v4 M = some (1, M9)) : Go x9 K 7 Q9 971 [(0, .ref scr9), (1, .ref v1), (2, .ref v2), (3, .ref v3), (4, .int v4)] [] M := by
  have hC := hE.1
  have hnm := hE.2.2.2.2.2.2.2.1
  unfold fL_law_971 at h
  refine go_aload_n hC dL_law_971 rfl 1 rfl ?_
  refine go_aload_n hC dL_law_972 rfl 0 rfl ?_
  refine go_iload hC dL_law_973 4 rfl ?_
  refine go_iconst hC dL_law_975 (v := (1 : Int32)) (by decide +kernel) ?_
  refine go_iadd hC dL_law_976 ?_
  obtain ⟨h1, h⟩ := os_1 h
  refine go_sld hC hS h1 dL_law_977 ?_
  obtain ⟨r2, M3, h4, h⟩ := os_c h
  refine go_callSH (bytes := cL_restart) (maxL := 3) (ret := (some .int)) (n := 2) (As := [.ref v1, .int (xs9 ((v4 + (1 : Int32))).toNatClampNeg)]) (st := []) hE (c_L_restart K.2.1 hl h4) (by unfold okY; decide +kernel) rfl m_744 m_742 m_743 m_108 rfl (by simp [Value.category]) (by decide) (by decide) dL_law_978 ?_
  refine go_eq (pc' := 981) (st' := [.int r2]) (M' := M3) (lv' := [(0, .ref scr9), (1, .ref v1), (2, .ref v2), (3, .ref v3), (4, .int v4)]) ?_ rfl rfl rfl rfl
  refine go_istore (lv' := [(5, .int r2), (0, .ref scr9), (1, .ref v1), (2, .ref v2), (3, .ref v3), (4, .int v4)]) hC dL_law_981 (by decide) rfl ?_
  refine go_aload_n hC dL_law_983 rfl 3 rfl ?_
  refine go_aload_n hC dL_law_984 rfl 1 rfl ?_
  refine go_iload hC dL_law_985 5 rfl ?_
  refine go_iconst hC dL_law_987 (v := (1 : Int32)) (by decide +kernel) ?_
  refine go_iadd hC dL_law_988 ?_
  obtain ⟨h6, h⟩ := os_1 h
  refine go_sld hC hS h6 dL_law_989 ?_
  obtain ⟨h10, h⟩ := os_1 h
  obtain ⟨r7, M8, h9, h⟩ := os_c h
  refine go_callV (bytes := cX5_restart) (maxL := 3) (ret := none) (n := 1) (As := [.int (xs9 ((v4 + (1 : Int32))).toNatClampNeg)]) (st := []) hE (c_X5_restart K.2.1 h9) (by unfold okY; decide +kernel) rfl h10 rfl (C := RX5) (T := TX5) (N := 28) rfl m_752 m_749 m_750 m_751 m_5 rfl (by simp [Value.category]) (by decide) (by decide) dL_law_990 ?_
  refine go_eq (pc' := 993) (st' := []) (M' := M8) (lv' := [(5, .int r2), (0, .ref scr9), (1, .ref v1), (2, .ref v2), (3, .ref v3), (4, .int v4)]) ?_ rfl rfl rfl rfl
  refine go_aload_n hC dL_law_993 rfl 3 rfl ?_
  obtain ⟨h14, h⟩ := os_1 h
  obtain ⟨r11, M12, h13, h⟩ := os_c h
  refine go_callV (bytes := cX5_thrown) (maxL := 1) (ret := (some .int)) (n := 0) (As := []) (st := []) hE (c_X5_thrown K.2.1 h13) (by unfold okY; decide +kernel) rfl h14 rfl (C := RX5) (T := TX5) (N := 28) rfl m_132 m_129 m_130 m_131 m_5 rfl (by simp [Value.category]) (by decide) (by decide) dL_law_994 ?_
  refine go_eq (pc' := 997) (st' := [.int r11]) (M' := M12) (lv' := [(5, .int r2), (0, .ref scr9), (1, .ref v1), (2, .ref v2), (3, .ref v3), (4, .int v4)]) ?_ rfl rfl rfl rfl
  refine go_iload hC dL_law_997 0 rfl ?_
  refine go_icmp_eq (t := 1004) hC dL_law_999 (by decide) (fun c15 => ?_) (fun c15 => ?_)
  · have h := os_t h c15
    refine go_goto (t := 1335) hC dL_law_1004 (by decide) ?_
    refine go_sub (lv' := [(0, .ref scr9), (1, .ref v1), (2, .ref v2), (3, .ref v3), (4, .int v4)]) [1, 2, 3, 4, 5] rfl ?_
    exact tL_law_1335 hE hl hS hfin hrec23 _ _ _ _ _ h
  · have h := os_f h c15
    refine go_iconst hC dL_law_1002 (v := (0 : Int32)) (by decide +kernel) ?_
    exact absurd (show (0 : Int32) = 1 from congrArg Prod.fst (Option.some.inj h)) (by decide)
def fL_law_1072 (x9 : Cx) (k9 : Nat) (L9 : Nat) (xs9 : Nat → Int32) (rec23 : Nat → Nat → Nat → Int32 → Mm → Option (Int32 × Mm)) (v1 : Nat) (v2 : Nat) (v3 : Nat) (v4 : Int32) (M : Mm) : Option (Int32 × Mm) :=
  fL_law_1335 x9 k9 L9 xs9 rec23 v1 v2 v3 v4 M
set_option maxRecDepth 100000 in
set_option maxHeartbeats 4000000 in
theorem tL_law_1072 {x9 : Cx} {nm9 : String} {scr9 L9 : Nat} {xs9 : Nat → Int32} {K : Ct} {k9 : Nat} {M0 M9 : Mm} {Q9 : State → Prop} (hE : Ce x9 K RL cL_law 7 (some .boolean) 16 626 nm9 M0) (hl : K.2.1.stackTraces = false) (hS : Sc x9 K scr9 L9 xs9) (hfin : ∀ (lv : List (Nat × Value)) (pc : Nat) (M : Mm), decode cL_law pc = .ok (.ireturn, 1) → Go x9 K 7 Q9 pc lv [.int 1] M) {rec23 : Nat → Nat → Nat → Int32 → Mm → Option (Int32 × Mm)} (hrec23 : ∀ (v1 : Nat) (v2 : Nat) (v3 : Nat) (v4 : Int32) (M : Mm), rec23 v1 v2 v3 v4 M = some (1, M9) → Go x9 K 7 Q9 23 [(0, .ref scr9), (1, .ref v1), (2, .ref v2), (3, .ref v3), (4, .int v4)] [] M) (v1 : Nat) (v2 : Nat) (v3 : Nat) (v4 : Int32) (M : Mm) (h : fL_law_1072 x9 k9 L9 xs9 rec23 v1 v2 v3 v4 M = some (1, M9)) : Go x9 K 7 Q9 1072 [(0, .ref scr9), (1, .ref v1), (2, .ref v2), (3, .ref v3), (4, .int v4)] [] M := by
  have hC := hE.1
  have hnm := hE.2.2.2.2.2.2.2.1
  unfold fL_law_1072 at h
  refine go_goto (t := 1335) hC dL_law_1072 (by decide) ?_
  exact tL_law_1335 hE hl hS hfin hrec23 _ _ _ _ _ h
def fL_law_1007 (x9 : Cx) (k9 : Nat) (L9 : Nat) (xs9 : Nat → Int32) (rec23 : Nat → Nat → Nat → Int32 → Mm → Option (Int32 × Mm)) (v1 : Nat) (v2 : Nat) (v3 : Nat) (v4 : Int32) (M : Mm) : Option (Int32 × Mm) :=
  if ¬ ((v4 + (1 : Int32)) < 0 ∨ L9 ≤ ((v4 + (1 : Int32))).toNatClampNeg) then if ¬ ((v4 + (2 : Int32)) < 0 ∨ L9 ≤ ((v4 + (2 : Int32))).toNatClampNeg) then ob2 (fL_about x9 k9 v1 (xs9 ((v4 + (1 : Int32))).toNatClampNeg) (xs9 ((v4 + (2 : Int32))).toNatClampNeg) v3 M) (fun r3 M4 => if ¬ ((v4 + (1 : Int32)) < 0 ∨ L9 ≤ ((v4 + (1 : Int32))).toNatClampNeg) then if ¬ ((v4 + (2 : Int32)) < 0 ∨ L9 ≤ ((v4 + (2 : Int32))).toNatClampNeg) then if mK M4 v2 = 6 then ob2 (fX5_about x9 k9 v2 (xs9 ((v4 + (1 : Int32))).toNatClampNeg) (xs9 ((v4 + (2 : Int32))).toNatClampNeg) M4) (fun r9 M10 => if mK M10 v2 = 6 then ob2 (fX5_thrown x9 k9 v2 M10) (fun r13 M14 => if r13 = r3 then if r3 = 0 then if mK M14 v3 = 12 ∧ ¬ ((0 : Int32) < 0 ∨ mN M14 v3 ≤ ((0 : Int32)).toNatClampNeg) then if (lg_cmp (mJ M14 v3 ((0 : Int32)).toNatClampNeg) (r9).toInt64) = 0 then fL_law_1072 x9 k9 L9 xs9 rec23 v1 v2 v3 v4 M14 else some ((0 : Int32), M14) else none else fL_law_1072 x9 k9 L9 xs9 rec23 v1 v2 v3 v4 M14 else some ((0 : Int32), M14)) else none) else none else none else none) else none else none
set_option maxRecDepth 100000 in
set_option maxHeartbeats 4000000 in
theorem tL_law_1007 {x9 : Cx} {nm9 : String} {scr9 L9 : Nat} {xs9 : Nat → Int32} {K : Ct} {k9 : Nat} {M0 M9 : Mm} {Q9 : State → Prop} (hE : Ce x9 K RL cL_law 7 (some .boolean) 16 626 nm9 M0) (hl : K.2.1.stackTraces = false) (hS : Sc x9 K scr9 L9 xs9) (hfin : ∀ (lv : List (Nat × Value)) (pc : Nat) (M : Mm), decode cL_law pc = .ok (.ireturn, 1) → Go x9 K 7 Q9 pc lv [.int 1] M) {rec23 : Nat → Nat → Nat → Int32 → Mm → Option (Int32 × Mm)} (hrec23 : ∀ (v1 : Nat) (v2 : Nat) (v3 : Nat) (v4 : Int32) (M : Mm), rec23 v1 v2 v3 v4 M = some (1, M9) → Go x9 K 7 Q9 23 [(0, .ref scr9), (1, .ref v1), (2, .ref v2), (3, .ref v3), (4, .int v4)] [] M) (v1 : Nat) (v2 : Nat) (v3 : Nat) (v4 : Int32) (M : Mm) (h : fL_law_1007 x9 k9 L9 xs9 rec23 v1 v2 v3 v4 M = some (1, M9)) : Go x9 K 7 Q9 1007 [(0, .ref scr9), (1, .ref v1), (2, .ref v2), (3, .ref v3), (4, .int v4)] [] M := by
  have hC := hE.1
  have hnm := hE.2.2.2.2.2.2.2.1
  unfold fL_law_1007 at h
  refine go_aload_n hC dL_law_1007 rfl 1 rfl ?_
  refine go_aload_n hC dL_law_1008 rfl 0 rfl ?_
  refine go_iload hC dL_law_1009 4 rfl ?_
  refine go_iconst hC dL_law_1011 (v := (1 : Int32)) (by decide +kernel) ?_
  refine go_iadd hC dL_law_1012 ?_
  obtain ⟨h1, h⟩ := os_1 h
  refine go_sld hC hS h1 dL_law_1013 ?_
  refine go_aload_n hC dL_law_1014 rfl 0 rfl ?_
  refine go_iload hC dL_law_1015 4 rfl ?_
  refine go_iconst hC dL_law_1017 (v := (2 : Int32)) (by decide +kernel) ?_
  refine go_iadd hC dL_law_1018 ?_
  obtain ⟨h2, h⟩ := os_1 h
  refine go_sld hC hS h2 dL_law_1019 ?_
  refine go_aload_n hC dL_law_1020 rfl 3 rfl ?_
  obtain ⟨r3, M4, h5, h⟩ := os_c h
  refine go_callSH (bytes := cL_about) (maxL := 5) (ret := (some .int)) (n := 4) (As := [.ref v1, .int (xs9 ((v4 + (1 : Int32))).toNatClampNeg), .int (xs9 ((v4 + (2 : Int32))).toNatClampNeg), .ref v3]) (st := []) hE (c_L_about K.2.1 hl h5) (by unfold okY; decide +kernel) rfl m_755 m_753 m_754 m_108 rfl (by simp [Value.category]) (by decide) (by decide) dL_law_1021 ?_
  refine go_eq (pc' := 1024) (st' := [.int r3]) (M' := M4) (lv' := [(0, .ref scr9), (1, .ref v1), (2, .ref v2), (3, .ref v3), (4, .int v4)]) ?_ rfl rfl rfl rfl
  refine go_istore (lv' := [(5, .int r3), (0, .ref scr9), (1, .ref v1), (2, .ref v2), (3, .ref v3), (4, .int v4)]) hC dL_law_1024 (by decide) rfl ?_
  refine go_aload_n hC dL_law_1026 rfl 3 rfl ?_
  refine go_aload_n hC dL_law_1027 rfl 1 rfl ?_
  refine go_iload hC dL_law_1028 5 rfl ?_
  refine go_iconst hC dL_law_1030 (v := (1 : Int32)) (by decide +kernel) ?_
  refine go_iadd hC dL_law_1031 ?_
  obtain ⟨h7, h⟩ := os_1 h
  refine go_sld hC hS h7 dL_law_1032 ?_
  refine go_aload_n hC dL_law_1033 rfl 1 rfl ?_
  refine go_iload hC dL_law_1034 5 rfl ?_
  refine go_iconst hC dL_law_1036 (v := (2 : Int32)) (by decide +kernel) ?_
  refine go_iadd hC dL_law_1037 ?_
  obtain ⟨h8, h⟩ := os_1 h
  refine go_sld hC hS h8 dL_law_1038 ?_
  obtain ⟨h12, h⟩ := os_1 h
  obtain ⟨r9, M10, h11, h⟩ := os_c h
  refine go_callV (bytes := cX5_about) (maxL := 6) (ret := (some .int)) (n := 2) (As := [.int (xs9 ((v4 + (1 : Int32))).toNatClampNeg), .int (xs9 ((v4 + (2 : Int32))).toNatClampNeg)]) (st := []) hE (c_X5_about K.2.1 h11) (by unfold okY; decide +kernel) rfl h12 rfl (C := RX5) (T := TX5) (N := 28) rfl m_763 m_760 m_761 m_762 m_5 rfl (by simp [Value.category]) (by decide) (by decide) dL_law_1039 ?_
  refine go_eq (pc' := 1042) (st' := [.int r9]) (M' := M10) (lv' := [(5, .int r3), (0, .ref scr9), (1, .ref v1), (2, .ref v2), (3, .ref v3), (4, .int v4)]) ?_ rfl rfl rfl rfl
  refine go_istore (lv' := [(6, .int r9), (5, .int r3), (0, .ref scr9), (1, .ref v1), (2, .ref v2), (3, .ref v3), (4, .int v4)]) hC dL_law_1042 (by decide) rfl ?_
  refine go_aload_n hC dL_law_1044 rfl 4 rfl ?_
  obtain ⟨h16, h⟩ := os_1 h
  obtain ⟨r13, M14, h15, h⟩ := os_c h
  refine go_callV (bytes := cX5_thrown) (maxL := 1) (ret := (some .int)) (n := 0) (As := []) (st := []) hE (c_X5_thrown K.2.1 h15) (by unfold okY; decide +kernel) rfl h16 rfl (C := RX5) (T := TX5) (N := 28) rfl m_132 m_129 m_130 m_131 m_5 rfl (by simp [Value.category]) (by decide) (by decide) dL_law_1045 ?_
  refine go_eq (pc' := 1048) (st' := [.int r13]) (M' := M14) (lv' := [(6, .int r9), (5, .int r3), (0, .ref scr9), (1, .ref v1), (2, .ref v2), (3, .ref v3), (4, .int v4)]) ?_ rfl rfl rfl rfl
  refine go_iload hC dL_law_1048 1 rfl ?_
  refine go_icmp_eq (t := 1055) hC dL_law_1050 (by decide) (fun c17 => ?_) (fun c17 => ?_)
  · have h := os_t h c17
    refine go_iload hC dL_law_1055 1 rfl ?_
    refine go_if_ne (t := 1072) hC dL_law_1057 (by decide) (fun c18 => ?_) (fun c18 => ?_)
    · have h := os_f h c18
      refine go_sub (lv' := [(0, .ref scr9), (1, .ref v1), (2, .ref v2), (3, .ref v3), (4, .int v4)]) [2, 3, 4, 5, 6] rfl ?_
      exact tL_law_1072 hE hl hS hfin hrec23 _ _ _ _ _ h
    · have h := os_t h c18
      refine go_aload_n hC dL_law_1060 rfl 5 rfl ?_
      refine go_iconst hC dL_law_1061 (v := (0 : Int32)) (by decide +kernel) ?_
      obtain ⟨h19, h⟩ := os_1 h
      refine go_lald hC h19.1 h19.2 dL_law_1062 ?_
      refine go_iload hC dL_law_1063 0 rfl ?_
      refine go_i2l hC dL_law_1065 ?_
      refine go_lcmp hC dL_law_1066 ?_
      refine go_if_eq (t := 1072) hC dL_law_1067 (by decide) (fun c20 => ?_) (fun c20 => ?_)
      · have h := os_t h c20
        refine go_sub (lv' := [(0, .ref scr9), (1, .ref v1), (2, .ref v2), (3, .ref v3), (4, .int v4)]) [2, 3, 4, 5, 6] rfl ?_
        exact tL_law_1072 hE hl hS hfin hrec23 _ _ _ _ _ h
      · have h := os_f h c20
        refine go_iconst hC dL_law_1070 (v := (0 : Int32)) (by decide +kernel) ?_
        exact absurd (show (0 : Int32) = 1 from congrArg Prod.fst (Option.some.inj h)) (by decide)
  · have h := os_f h c17
    refine go_iconst hC dL_law_1053 (v := (0 : Int32)) (by decide +kernel) ?_
    exact absurd (show (0 : Int32) = 1 from congrArg Prod.fst (Option.some.inj h)) (by decide)
def fL_law_1140 (x9 : Cx) (k9 : Nat) (L9 : Nat) (xs9 : Nat → Int32) (rec23 : Nat → Nat → Nat → Int32 → Mm → Option (Int32 × Mm)) (v1 : Nat) (v2 : Nat) (v3 : Nat) (v4 : Int32) (M : Mm) : Option (Int32 × Mm) :=
  fL_law_1335 x9 k9 L9 xs9 rec23 v1 v2 v3 v4 M
set_option maxRecDepth 100000 in
set_option maxHeartbeats 4000000 in
theorem tL_law_1140 {x9 : Cx} {nm9 : String} {scr9 L9 : Nat} {xs9 : Nat → Int32} {K : Ct} {k9 : Nat} {M0 M9 : Mm} {Q9 : State → Prop} (hE : Ce x9 K RL cL_law 7 (some .boolean) 16 626 nm9 M0) (hl : K.2.1.stackTraces = false) (hS : Sc x9 K scr9 L9 xs9) (hfin : ∀ (lv : List (Nat × Value)) (pc : Nat) (M : Mm), decode cL_law pc = .ok (.ireturn, 1) → Go x9 K 7 Q9 pc lv [.int 1] M) {rec23 : Nat → Nat → Nat → Int32 → Mm → Option (Int32 × Mm)} (hrec23 : ∀ (v1 : Nat) (v2 : Nat) (v3 : Nat) (v4 : Int32) (M : Mm), rec23 v1 v2 v3 v4 M = some (1, M9) → Go x9 K 7 Q9 23 [(0, .ref scr9), (1, .ref v1), (2, .ref v2), (3, .ref v3), (4, .int v4)] [] M) (v1 : Nat) (v2 : Nat) (v3 : Nat) (v4 : Int32) (M : Mm) (h : fL_law_1140 x9 k9 L9 xs9 rec23 v1 v2 v3 v4 M = some (1, M9)) : Go x9 K 7 Q9 1140 [(0, .ref scr9), (1, .ref v1), (2, .ref v2), (3, .ref v3), (4, .int v4)] [] M := by
  have hC := hE.1
  have hnm := hE.2.2.2.2.2.2.2.1
  unfold fL_law_1140 at h
  refine go_goto (t := 1335) hC dL_law_1140 (by decide) ?_
  exact tL_law_1335 hE hl hS hfin hrec23 _ _ _ _ _ h
def fL_law_1075 (x9 : Cx) (k9 : Nat) (L9 : Nat) (xs9 : Nat → Int32) (rec23 : Nat → Nat → Nat → Int32 → Mm → Option (Int32 × Mm)) (v1 : Nat) (v2 : Nat) (v3 : Nat) (v4 : Int32) (M : Mm) : Option (Int32 × Mm) :=
  if ¬ ((v4 + (1 : Int32)) < 0 ∨ L9 ≤ ((v4 + (1 : Int32))).toNatClampNeg) then if ¬ ((v4 + (2 : Int32)) < 0 ∨ L9 ≤ ((v4 + (2 : Int32))).toNatClampNeg) then ob2 (fL_vector x9 k9 v1 (xs9 ((v4 + (1 : Int32))).toNatClampNeg) (xs9 ((v4 + (2 : Int32))).toNatClampNeg) v3 M) (fun r3 M4 => if ¬ ((v4 + (1 : Int32)) < 0 ∨ L9 ≤ ((v4 + (1 : Int32))).toNatClampNeg) then if ¬ ((v4 + (2 : Int32)) < 0 ∨ L9 ≤ ((v4 + (2 : Int32))).toNatClampNeg) then if mK M4 v2 = 6 then ob2 (fX5_vector x9 k9 v2 (xs9 ((v4 + (1 : Int32))).toNatClampNeg) (xs9 ((v4 + (2 : Int32))).toNatClampNeg) M4) (fun r9 M10 => if mK M10 v2 = 6 then ob2 (fX5_thrown x9 k9 v2 M10) (fun r13 M14 => if r13 = r3 then if r3 = 0 then if mK M14 v3 = 12 ∧ ¬ ((0 : Int32) < 0 ∨ mN M14 v3 ≤ ((0 : Int32)).toNatClampNeg) then if (lg_cmp (mJ M14 v3 ((0 : Int32)).toNatClampNeg) (r9).toInt64) = 0 then fL_law_1140 x9 k9 L9 xs9 rec23 v1 v2 v3 v4 M14 else some ((0 : Int32), M14) else none else fL_law_1140 x9 k9 L9 xs9 rec23 v1 v2 v3 v4 M14 else some ((0 : Int32), M14)) else none) else none else none else none) else none else none
set_option maxRecDepth 100000 in
set_option maxHeartbeats 4000000 in
theorem tL_law_1075 {x9 : Cx} {nm9 : String} {scr9 L9 : Nat} {xs9 : Nat → Int32} {K : Ct} {k9 : Nat} {M0 M9 : Mm} {Q9 : State → Prop} (hE : Ce x9 K RL cL_law 7 (some .boolean) 16 626 nm9 M0) (hl : K.2.1.stackTraces = false) (hS : Sc x9 K scr9 L9 xs9) (hfin : ∀ (lv : List (Nat × Value)) (pc : Nat) (M : Mm), decode cL_law pc = .ok (.ireturn, 1) → Go x9 K 7 Q9 pc lv [.int 1] M) {rec23 : Nat → Nat → Nat → Int32 → Mm → Option (Int32 × Mm)} (hrec23 : ∀ (v1 : Nat) (v2 : Nat) (v3 : Nat) (v4 : Int32) (M : Mm), rec23 v1 v2 v3 v4 M = some (1, M9) → Go x9 K 7 Q9 23 [(0, .ref scr9), (1, .ref v1), (2, .ref v2), (3, .ref v3), (4, .int v4)] [] M) (v1 : Nat) (v2 : Nat) (v3 : Nat) (v4 : Int32) (M : Mm) (h : fL_law_1075 x9 k9 L9 xs9 rec23 v1 v2 v3 v4 M = some (1, M9)) : Go x9 K 7 Q9 1075 [(0, .ref scr9), (1, .ref v1), (2, .ref v2), (3, .ref v3), (4, .int v4)] [] M := by
  have hC := hE.1
  have hnm := hE.2.2.2.2.2.2.2.1
  unfold fL_law_1075 at h
  refine go_aload_n hC dL_law_1075 rfl 1 rfl ?_
  refine go_aload_n hC dL_law_1076 rfl 0 rfl ?_
  refine go_iload hC dL_law_1077 4 rfl ?_
  refine go_iconst hC dL_law_1079 (v := (1 : Int32)) (by decide +kernel) ?_
  refine go_iadd hC dL_law_1080 ?_
  obtain ⟨h1, h⟩ := os_1 h
  refine go_sld hC hS h1 dL_law_1081 ?_
  refine go_aload_n hC dL_law_1082 rfl 0 rfl ?_
  refine go_iload hC dL_law_1083 4 rfl ?_
  refine go_iconst hC dL_law_1085 (v := (2 : Int32)) (by decide +kernel) ?_
  refine go_iadd hC dL_law_1086 ?_
  obtain ⟨h2, h⟩ := os_1 h
  refine go_sld hC hS h2 dL_law_1087 ?_
  refine go_aload_n hC dL_law_1088 rfl 3 rfl ?_
  obtain ⟨r3, M4, h5, h⟩ := os_c h
  refine go_callSH (bytes := cL_vector) (maxL := 5) (ret := (some .int)) (n := 4) (As := [.ref v1, .int (xs9 ((v4 + (1 : Int32))).toNatClampNeg), .int (xs9 ((v4 + (2 : Int32))).toNatClampNeg), .ref v3]) (st := []) hE (c_L_vector K.2.1 hl h5) (by unfold okY; decide +kernel) rfl m_766 m_764 m_765 m_108 rfl (by simp [Value.category]) (by decide) (by decide) dL_law_1089 ?_
  refine go_eq (pc' := 1092) (st' := [.int r3]) (M' := M4) (lv' := [(0, .ref scr9), (1, .ref v1), (2, .ref v2), (3, .ref v3), (4, .int v4)]) ?_ rfl rfl rfl rfl
  refine go_istore (lv' := [(5, .int r3), (0, .ref scr9), (1, .ref v1), (2, .ref v2), (3, .ref v3), (4, .int v4)]) hC dL_law_1092 (by decide) rfl ?_
  refine go_aload_n hC dL_law_1094 rfl 3 rfl ?_
  refine go_aload_n hC dL_law_1095 rfl 1 rfl ?_
  refine go_iload hC dL_law_1096 5 rfl ?_
  refine go_iconst hC dL_law_1098 (v := (1 : Int32)) (by decide +kernel) ?_
  refine go_iadd hC dL_law_1099 ?_
  obtain ⟨h7, h⟩ := os_1 h
  refine go_sld hC hS h7 dL_law_1100 ?_
  refine go_aload_n hC dL_law_1101 rfl 1 rfl ?_
  refine go_iload hC dL_law_1102 5 rfl ?_
  refine go_iconst hC dL_law_1104 (v := (2 : Int32)) (by decide +kernel) ?_
  refine go_iadd hC dL_law_1105 ?_
  obtain ⟨h8, h⟩ := os_1 h
  refine go_sld hC hS h8 dL_law_1106 ?_
  obtain ⟨h12, h⟩ := os_1 h
  obtain ⟨r9, M10, h11, h⟩ := os_c h
  refine go_callV (bytes := cX5_vector) (maxL := 3) (ret := (some .int)) (n := 2) (As := [.int (xs9 ((v4 + (1 : Int32))).toNatClampNeg), .int (xs9 ((v4 + (2 : Int32))).toNatClampNeg)]) (st := []) hE (c_X5_vector K.2.1 h11) (by unfold okY; decide +kernel) rfl h12 rfl (C := RX5) (T := TX5) (N := 28) rfl m_774 m_771 m_772 m_773 m_5 rfl (by simp [Value.category]) (by decide) (by decide) dL_law_1107 ?_
  refine go_eq (pc' := 1110) (st' := [.int r9]) (M' := M10) (lv' := [(5, .int r3), (0, .ref scr9), (1, .ref v1), (2, .ref v2), (3, .ref v3), (4, .int v4)]) ?_ rfl rfl rfl rfl
  refine go_istore (lv' := [(6, .int r9), (5, .int r3), (0, .ref scr9), (1, .ref v1), (2, .ref v2), (3, .ref v3), (4, .int v4)]) hC dL_law_1110 (by decide) rfl ?_
  refine go_aload_n hC dL_law_1112 rfl 4 rfl ?_
  obtain ⟨h16, h⟩ := os_1 h
  obtain ⟨r13, M14, h15, h⟩ := os_c h
  refine go_callV (bytes := cX5_thrown) (maxL := 1) (ret := (some .int)) (n := 0) (As := []) (st := []) hE (c_X5_thrown K.2.1 h15) (by unfold okY; decide +kernel) rfl h16 rfl (C := RX5) (T := TX5) (N := 28) rfl m_132 m_129 m_130 m_131 m_5 rfl (by simp [Value.category]) (by decide) (by decide) dL_law_1113 ?_
  refine go_eq (pc' := 1116) (st' := [.int r13]) (M' := M14) (lv' := [(6, .int r9), (5, .int r3), (0, .ref scr9), (1, .ref v1), (2, .ref v2), (3, .ref v3), (4, .int v4)]) ?_ rfl rfl rfl rfl
  refine go_iload hC dL_law_1116 1 rfl ?_
  refine go_icmp_eq (t := 1123) hC dL_law_1118 (by decide) (fun c17 => ?_) (fun c17 => ?_)
  · have h := os_t h c17
    refine go_iload hC dL_law_1123 1 rfl ?_
    refine go_if_ne (t := 1140) hC dL_law_1125 (by decide) (fun c18 => ?_) (fun c18 => ?_)
    · have h := os_f h c18
      refine go_sub (lv' := [(0, .ref scr9), (1, .ref v1), (2, .ref v2), (3, .ref v3), (4, .int v4)]) [2, 3, 4, 5, 6] rfl ?_
      exact tL_law_1140 hE hl hS hfin hrec23 _ _ _ _ _ h
    · have h := os_t h c18
      refine go_aload_n hC dL_law_1128 rfl 5 rfl ?_
      refine go_iconst hC dL_law_1129 (v := (0 : Int32)) (by decide +kernel) ?_
      obtain ⟨h19, h⟩ := os_1 h
      refine go_lald hC h19.1 h19.2 dL_law_1130 ?_
      refine go_iload hC dL_law_1131 0 rfl ?_
      refine go_i2l hC dL_law_1133 ?_
      refine go_lcmp hC dL_law_1134 ?_
      refine go_if_eq (t := 1140) hC dL_law_1135 (by decide) (fun c20 => ?_) (fun c20 => ?_)
      · have h := os_t h c20
        refine go_sub (lv' := [(0, .ref scr9), (1, .ref v1), (2, .ref v2), (3, .ref v3), (4, .int v4)]) [2, 3, 4, 5, 6] rfl ?_
        exact tL_law_1140 hE hl hS hfin hrec23 _ _ _ _ _ h
      · have h := os_f h c20
        refine go_iconst hC dL_law_1138 (v := (0 : Int32)) (by decide +kernel) ?_
        exact absurd (show (0 : Int32) = 1 from congrArg Prod.fst (Option.some.inj h)) (by decide)
  · have h := os_f h c17
    refine go_iconst hC dL_law_1121 (v := (0 : Int32)) (by decide +kernel) ?_
    exact absurd (show (0 : Int32) = 1 from congrArg Prod.fst (Option.some.inj h)) (by decide)
def fL_law_1208 (x9 : Cx) (k9 : Nat) (L9 : Nat) (xs9 : Nat → Int32) (rec23 : Nat → Nat → Nat → Int32 → Mm → Option (Int32 × Mm)) (v1 : Nat) (v2 : Nat) (v3 : Nat) (v4 : Int32) (M : Mm) : Option (Int32 × Mm) :=
  fL_law_1335 x9 k9 L9 xs9 rec23 v1 v2 v3 v4 M
set_option maxRecDepth 100000 in
set_option maxHeartbeats 4000000 in
theorem tL_law_1208 {x9 : Cx} {nm9 : String} {scr9 L9 : Nat} {xs9 : Nat → Int32} {K : Ct} {k9 : Nat} {M0 M9 : Mm} {Q9 : State → Prop} (hE : Ce x9 K RL cL_law 7 (some .boolean) 16 626 nm9 M0) (hl : K.2.1.stackTraces = false) (hS : Sc x9 K scr9 L9 xs9) (hfin : ∀ (lv : List (Nat × Value)) (pc : Nat) (M : Mm), decode cL_law pc = .ok (.ireturn, 1) → Go x9 K 7 Q9 pc lv [.int 1] M) {rec23 : Nat → Nat → Nat → Int32 → Mm → Option (Int32 × Mm)} (hrec23 : ∀ (v1 : Nat) (v2 : Nat) (v3 : Nat) (v4 : Int32) (M : Mm), rec23 v1 v2 v3 v4 M = some (1, M9) → Go x9 K 7 Q9 23 [(0, .ref scr9), (1, .ref v1), (2, .ref v2), (3, .ref v3), (4, .int v4)] [] M) (v1 : Nat) (v2 : Nat) (v3 : Nat) (v4 : Int32) (M : Mm) (h : fL_law_1208 x9 k9 L9 xs9 rec23 v1 v2 v3 v4 M = some (1, M9)) : Go x9 K 7 Q9 1208 [(0, .ref scr9), (1, .ref v1), (2, .ref v2), (3, .ref v3), (4, .int v4)] [] M := by
  have hC := hE.1
  have hnm := hE.2.2.2.2.2.2.2.1
  unfold fL_law_1208 at h
  refine go_goto (t := 1335) hC dL_law_1208 (by decide) ?_
  exact tL_law_1335 hE hl hS hfin hrec23 _ _ _ _ _ h
def fL_law_1143 (x9 : Cx) (k9 : Nat) (L9 : Nat) (xs9 : Nat → Int32) (rec23 : Nat → Nat → Nat → Int32 → Mm → Option (Int32 × Mm)) (v1 : Nat) (v2 : Nat) (v3 : Nat) (v4 : Int32) (M : Mm) : Option (Int32 × Mm) :=
  if ¬ ((v4 + (1 : Int32)) < 0 ∨ L9 ≤ ((v4 + (1 : Int32))).toNatClampNeg) then if ¬ ((v4 + (2 : Int32)) < 0 ∨ L9 ≤ ((v4 + (2 : Int32))).toNatClampNeg) then ob2 (fL_value x9 k9 v1 (xs9 ((v4 + (1 : Int32))).toNatClampNeg) (xs9 ((v4 + (2 : Int32))).toNatClampNeg) v3 M) (fun r3 M4 => if ¬ ((v4 + (1 : Int32)) < 0 ∨ L9 ≤ ((v4 + (1 : Int32))).toNatClampNeg) then if ¬ ((v4 + (2 : Int32)) < 0 ∨ L9 ≤ ((v4 + (2 : Int32))).toNatClampNeg) then if mK M4 v2 = 6 then ob2 (fX5_value x9 k9 v2 (xs9 ((v4 + (1 : Int32))).toNatClampNeg) (xs9 ((v4 + (2 : Int32))).toNatClampNeg) M4) (fun r9 M10 => if mK M10 v2 = 6 then ob2 (fX5_thrown x9 k9 v2 M10) (fun r13 M14 => if r13 = r3 then if r3 = 0 then if mK M14 v3 = 12 ∧ ¬ ((0 : Int32) < 0 ∨ mN M14 v3 ≤ ((0 : Int32)).toNatClampNeg) then if (lg_cmp (mJ M14 v3 ((0 : Int32)).toNatClampNeg) (r9).toInt64) = 0 then fL_law_1208 x9 k9 L9 xs9 rec23 v1 v2 v3 v4 M14 else some ((0 : Int32), M14) else none else fL_law_1208 x9 k9 L9 xs9 rec23 v1 v2 v3 v4 M14 else some ((0 : Int32), M14)) else none) else none else none else none) else none else none
set_option maxRecDepth 100000 in
set_option maxHeartbeats 4000000 in
theorem tL_law_1143 {x9 : Cx} {nm9 : String} {scr9 L9 : Nat} {xs9 : Nat → Int32} {K : Ct} {k9 : Nat} {M0 M9 : Mm} {Q9 : State → Prop} (hE : Ce x9 K RL cL_law 7 (some .boolean) 16 626 nm9 M0) (hl : K.2.1.stackTraces = false) (hS : Sc x9 K scr9 L9 xs9) (hfin : ∀ (lv : List (Nat × Value)) (pc : Nat) (M : Mm), decode cL_law pc = .ok (.ireturn, 1) → Go x9 K 7 Q9 pc lv [.int 1] M) {rec23 : Nat → Nat → Nat → Int32 → Mm → Option (Int32 × Mm)} (hrec23 : ∀ (v1 : Nat) (v2 : Nat) (v3 : Nat) (v4 : Int32) (M : Mm), rec23 v1 v2 v3 v4 M = some (1, M9) → Go x9 K 7 Q9 23 [(0, .ref scr9), (1, .ref v1), (2, .ref v2), (3, .ref v3), (4, .int v4)] [] M) (v1 : Nat) (v2 : Nat) (v3 : Nat) (v4 : Int32) (M : Mm) (h : fL_law_1143 x9 k9 L9 xs9 rec23 v1 v2 v3 v4 M = some (1, M9)) : Go x9 K 7 Q9 1143 [(0, .ref scr9), (1, .ref v1), (2, .ref v2), (3, .ref v3), (4, .int v4)] [] M := by
  have hC := hE.1
  have hnm := hE.2.2.2.2.2.2.2.1
  unfold fL_law_1143 at h
  refine go_aload_n hC dL_law_1143 rfl 1 rfl ?_
  refine go_aload_n hC dL_law_1144 rfl 0 rfl ?_
  refine go_iload hC dL_law_1145 4 rfl ?_
  refine go_iconst hC dL_law_1147 (v := (1 : Int32)) (by decide +kernel) ?_
  refine go_iadd hC dL_law_1148 ?_
  obtain ⟨h1, h⟩ := os_1 h
  refine go_sld hC hS h1 dL_law_1149 ?_
  refine go_aload_n hC dL_law_1150 rfl 0 rfl ?_
  refine go_iload hC dL_law_1151 4 rfl ?_
  refine go_iconst hC dL_law_1153 (v := (2 : Int32)) (by decide +kernel) ?_
  refine go_iadd hC dL_law_1154 ?_
  obtain ⟨h2, h⟩ := os_1 h
  refine go_sld hC hS h2 dL_law_1155 ?_
  refine go_aload_n hC dL_law_1156 rfl 3 rfl ?_
  obtain ⟨r3, M4, h5, h⟩ := os_c h
  refine go_callSH (bytes := cL_value) (maxL := 5) (ret := (some .int)) (n := 4) (As := [.ref v1, .int (xs9 ((v4 + (1 : Int32))).toNatClampNeg), .int (xs9 ((v4 + (2 : Int32))).toNatClampNeg), .ref v3]) (st := []) hE (c_L_value K.2.1 hl h5) (by unfold okY; decide +kernel) rfl m_777 m_775 m_776 m_108 rfl (by simp [Value.category]) (by decide) (by decide) dL_law_1157 ?_
  refine go_eq (pc' := 1160) (st' := [.int r3]) (M' := M4) (lv' := [(0, .ref scr9), (1, .ref v1), (2, .ref v2), (3, .ref v3), (4, .int v4)]) ?_ rfl rfl rfl rfl
  refine go_istore (lv' := [(5, .int r3), (0, .ref scr9), (1, .ref v1), (2, .ref v2), (3, .ref v3), (4, .int v4)]) hC dL_law_1160 (by decide) rfl ?_
  refine go_aload_n hC dL_law_1162 rfl 3 rfl ?_
  refine go_aload_n hC dL_law_1163 rfl 1 rfl ?_
  refine go_iload hC dL_law_1164 5 rfl ?_
  refine go_iconst hC dL_law_1166 (v := (1 : Int32)) (by decide +kernel) ?_
  refine go_iadd hC dL_law_1167 ?_
  obtain ⟨h7, h⟩ := os_1 h
  refine go_sld hC hS h7 dL_law_1168 ?_
  refine go_aload_n hC dL_law_1169 rfl 1 rfl ?_
  refine go_iload hC dL_law_1170 5 rfl ?_
  refine go_iconst hC dL_law_1172 (v := (2 : Int32)) (by decide +kernel) ?_
  refine go_iadd hC dL_law_1173 ?_
  obtain ⟨h8, h⟩ := os_1 h
  refine go_sld hC hS h8 dL_law_1174 ?_
  obtain ⟨h12, h⟩ := os_1 h
  obtain ⟨r9, M10, h11, h⟩ := os_c h
  refine go_callV (bytes := cX5_value) (maxL := 3) (ret := (some .int)) (n := 2) (As := [.int (xs9 ((v4 + (1 : Int32))).toNatClampNeg), .int (xs9 ((v4 + (2 : Int32))).toNatClampNeg)]) (st := []) hE (c_X5_value K.2.1 h11) (by unfold okY; decide +kernel) rfl h12 rfl (C := RX5) (T := TX5) (N := 28) rfl m_785 m_782 m_783 m_784 m_5 rfl (by simp [Value.category]) (by decide) (by decide) dL_law_1175 ?_
  refine go_eq (pc' := 1178) (st' := [.int r9]) (M' := M10) (lv' := [(5, .int r3), (0, .ref scr9), (1, .ref v1), (2, .ref v2), (3, .ref v3), (4, .int v4)]) ?_ rfl rfl rfl rfl
  refine go_istore (lv' := [(6, .int r9), (5, .int r3), (0, .ref scr9), (1, .ref v1), (2, .ref v2), (3, .ref v3), (4, .int v4)]) hC dL_law_1178 (by decide) rfl ?_
  refine go_aload_n hC dL_law_1180 rfl 4 rfl ?_
  obtain ⟨h16, h⟩ := os_1 h
  obtain ⟨r13, M14, h15, h⟩ := os_c h
  refine go_callV (bytes := cX5_thrown) (maxL := 1) (ret := (some .int)) (n := 0) (As := []) (st := []) hE (c_X5_thrown K.2.1 h15) (by unfold okY; decide +kernel) rfl h16 rfl (C := RX5) (T := TX5) (N := 28) rfl m_132 m_129 m_130 m_131 m_5 rfl (by simp [Value.category]) (by decide) (by decide) dL_law_1181 ?_
  refine go_eq (pc' := 1184) (st' := [.int r13]) (M' := M14) (lv' := [(6, .int r9), (5, .int r3), (0, .ref scr9), (1, .ref v1), (2, .ref v2), (3, .ref v3), (4, .int v4)]) ?_ rfl rfl rfl rfl
  refine go_iload hC dL_law_1184 1 rfl ?_
  refine go_icmp_eq (t := 1191) hC dL_law_1186 (by decide) (fun c17 => ?_) (fun c17 => ?_)
  · have h := os_t h c17
    refine go_iload hC dL_law_1191 1 rfl ?_
    refine go_if_ne (t := 1208) hC dL_law_1193 (by decide) (fun c18 => ?_) (fun c18 => ?_)
    · have h := os_f h c18
      refine go_sub (lv' := [(0, .ref scr9), (1, .ref v1), (2, .ref v2), (3, .ref v3), (4, .int v4)]) [2, 3, 4, 5, 6] rfl ?_
      exact tL_law_1208 hE hl hS hfin hrec23 _ _ _ _ _ h
    · have h := os_t h c18
      refine go_aload_n hC dL_law_1196 rfl 5 rfl ?_
      refine go_iconst hC dL_law_1197 (v := (0 : Int32)) (by decide +kernel) ?_
      obtain ⟨h19, h⟩ := os_1 h
      refine go_lald hC h19.1 h19.2 dL_law_1198 ?_
      refine go_iload hC dL_law_1199 0 rfl ?_
      refine go_i2l hC dL_law_1201 ?_
      refine go_lcmp hC dL_law_1202 ?_
      refine go_if_eq (t := 1208) hC dL_law_1203 (by decide) (fun c20 => ?_) (fun c20 => ?_)
      · have h := os_t h c20
        refine go_sub (lv' := [(0, .ref scr9), (1, .ref v1), (2, .ref v2), (3, .ref v3), (4, .int v4)]) [2, 3, 4, 5, 6] rfl ?_
        exact tL_law_1208 hE hl hS hfin hrec23 _ _ _ _ _ h
      · have h := os_f h c20
        refine go_iconst hC dL_law_1206 (v := (0 : Int32)) (by decide +kernel) ?_
        exact absurd (show (0 : Int32) = 1 from congrArg Prod.fst (Option.some.inj h)) (by decide)
  · have h := os_f h c17
    refine go_iconst hC dL_law_1189 (v := (0 : Int32)) (by decide +kernel) ?_
    exact absurd (show (0 : Int32) = 1 from congrArg Prod.fst (Option.some.inj h)) (by decide)
def fL_law_1276 (x9 : Cx) (k9 : Nat) (L9 : Nat) (xs9 : Nat → Int32) (rec23 : Nat → Nat → Nat → Int32 → Mm → Option (Int32 × Mm)) (v1 : Nat) (v2 : Nat) (v3 : Nat) (v4 : Int32) (M : Mm) : Option (Int32 × Mm) :=
  fL_law_1335 x9 k9 L9 xs9 rec23 v1 v2 v3 v4 M
set_option maxRecDepth 100000 in
set_option maxHeartbeats 4000000 in
theorem tL_law_1276 {x9 : Cx} {nm9 : String} {scr9 L9 : Nat} {xs9 : Nat → Int32} {K : Ct} {k9 : Nat} {M0 M9 : Mm} {Q9 : State → Prop} (hE : Ce x9 K RL cL_law 7 (some .boolean) 16 626 nm9 M0) (hl : K.2.1.stackTraces = false) (hS : Sc x9 K scr9 L9 xs9) (hfin : ∀ (lv : List (Nat × Value)) (pc : Nat) (M : Mm), decode cL_law pc = .ok (.ireturn, 1) → Go x9 K 7 Q9 pc lv [.int 1] M) {rec23 : Nat → Nat → Nat → Int32 → Mm → Option (Int32 × Mm)} (hrec23 : ∀ (v1 : Nat) (v2 : Nat) (v3 : Nat) (v4 : Int32) (M : Mm), rec23 v1 v2 v3 v4 M = some (1, M9) → Go x9 K 7 Q9 23 [(0, .ref scr9), (1, .ref v1), (2, .ref v2), (3, .ref v3), (4, .int v4)] [] M) (v1 : Nat) (v2 : Nat) (v3 : Nat) (v4 : Int32) (M : Mm) (h : fL_law_1276 x9 k9 L9 xs9 rec23 v1 v2 v3 v4 M = some (1, M9)) : Go x9 K 7 Q9 1276 [(0, .ref scr9), (1, .ref v1), (2, .ref v2), (3, .ref v3), (4, .int v4)] [] M := by
  have hC := hE.1
  have hnm := hE.2.2.2.2.2.2.2.1
  unfold fL_law_1276 at h
  refine go_goto (t := 1335) hC dL_law_1276 (by decide) ?_
  exact tL_law_1335 hE hl hS hfin hrec23 _ _ _ _ _ h
def fL_law_1211 (x9 : Cx) (k9 : Nat) (L9 : Nat) (xs9 : Nat → Int32) (rec23 : Nat → Nat → Nat → Int32 → Mm → Option (Int32 × Mm)) (v1 : Nat) (v2 : Nat) (v3 : Nat) (v4 : Int32) (M : Mm) : Option (Int32 × Mm) :=
  if ¬ ((v4 + (1 : Int32)) < 0 ∨ L9 ≤ ((v4 + (1 : Int32))).toNatClampNeg) then if ¬ ((v4 + (2 : Int32)) < 0 ∨ L9 ≤ ((v4 + (2 : Int32))).toNatClampNeg) then ob2 (fL_locked x9 k9 v1 (xs9 ((v4 + (1 : Int32))).toNatClampNeg) (xs9 ((v4 + (2 : Int32))).toNatClampNeg) v3 M) (fun r3 M4 => if ¬ ((v4 + (1 : Int32)) < 0 ∨ L9 ≤ ((v4 + (1 : Int32))).toNatClampNeg) then if ¬ ((v4 + (2 : Int32)) < 0 ∨ L9 ≤ ((v4 + (2 : Int32))).toNatClampNeg) then if mK M4 v2 = 6 then ob2 (fX5_locked x9 k9 v2 (xs9 ((v4 + (1 : Int32))).toNatClampNeg) (xs9 ((v4 + (2 : Int32))).toNatClampNeg) M4) (fun r9 M10 => if mK M10 v2 = 6 then ob2 (fX5_thrown x9 k9 v2 M10) (fun r13 M14 => if r13 = r3 then if r3 = 0 then if mK M14 v3 = 12 ∧ ¬ ((0 : Int32) < 0 ∨ mN M14 v3 ≤ ((0 : Int32)).toNatClampNeg) then if (lg_cmp (mJ M14 v3 ((0 : Int32)).toNatClampNeg) (r9).toInt64) = 0 then fL_law_1276 x9 k9 L9 xs9 rec23 v1 v2 v3 v4 M14 else some ((0 : Int32), M14) else none else fL_law_1276 x9 k9 L9 xs9 rec23 v1 v2 v3 v4 M14 else some ((0 : Int32), M14)) else none) else none else none else none) else none else none
set_option maxRecDepth 100000 in
set_option maxHeartbeats 4000000 in
theorem tL_law_1211 {x9 : Cx} {nm9 : String} {scr9 L9 : Nat} {xs9 : Nat → Int32} {K : Ct} {k9 : Nat} {M0 M9 : Mm} {Q9 : State → Prop} (hE : Ce x9 K RL cL_law 7 (some .boolean) 16 626 nm9 M0) (hl : K.2.1.stackTraces = false) (hS : Sc x9 K scr9 L9 xs9) (hfin : ∀ (lv : List (Nat × Value)) (pc : Nat) (M : Mm), decode cL_law pc = .ok (.ireturn, 1) → Go x9 K 7 Q9 pc lv [.int 1] M) {rec23 : Nat → Nat → Nat → Int32 → Mm → Option (Int32 × Mm)} (hrec23 : ∀ (v1 : Nat) (v2 : Nat) (v3 : Nat) (v4 : Int32) (M : Mm), rec23 v1 v2 v3 v4 M = some (1, M9) → Go x9 K 7 Q9 23 [(0, .ref scr9), (1, .ref v1), (2, .ref v2), (3, .ref v3), (4, .int v4)] [] M) (v1 : Nat) (v2 : Nat) (v3 : Nat) (v4 : Int32) (M : Mm) (h : fL_law_1211 x9 k9 L9 xs9 rec23 v1 v2 v3 v4 M = some (1, M9)) : Go x9 K 7 Q9 1211 [(0, .ref scr9), (1, .ref v1), (2, .ref v2), (3, .ref v3), (4, .int v4)] [] M := by
  have hC := hE.1
  have hnm := hE.2.2.2.2.2.2.2.1
  unfold fL_law_1211 at h
  refine go_aload_n hC dL_law_1211 rfl 1 rfl ?_
  refine go_aload_n hC dL_law_1212 rfl 0 rfl ?_
  refine go_iload hC dL_law_1213 4 rfl ?_
  refine go_iconst hC dL_law_1215 (v := (1 : Int32)) (by decide +kernel) ?_
  refine go_iadd hC dL_law_1216 ?_
  obtain ⟨h1, h⟩ := os_1 h
  refine go_sld hC hS h1 dL_law_1217 ?_
  refine go_aload_n hC dL_law_1218 rfl 0 rfl ?_
  refine go_iload hC dL_law_1219 4 rfl ?_
  refine go_iconst hC dL_law_1221 (v := (2 : Int32)) (by decide +kernel) ?_
  refine go_iadd hC dL_law_1222 ?_
  obtain ⟨h2, h⟩ := os_1 h
  refine go_sld hC hS h2 dL_law_1223 ?_
  refine go_aload_n hC dL_law_1224 rfl 3 rfl ?_
  obtain ⟨r3, M4, h5, h⟩ := os_c h
  refine go_callSH (bytes := cL_locked) (maxL := 5) (ret := (some .int)) (n := 4) (As := [.ref v1, .int (xs9 ((v4 + (1 : Int32))).toNatClampNeg), .int (xs9 ((v4 + (2 : Int32))).toNatClampNeg), .ref v3]) (st := []) hE (c_L_locked K.2.1 hl h5) (by unfold okY; decide +kernel) rfl m_788 m_786 m_787 m_108 rfl (by simp [Value.category]) (by decide) (by decide) dL_law_1225 ?_
  refine go_eq (pc' := 1228) (st' := [.int r3]) (M' := M4) (lv' := [(0, .ref scr9), (1, .ref v1), (2, .ref v2), (3, .ref v3), (4, .int v4)]) ?_ rfl rfl rfl rfl
  refine go_istore (lv' := [(5, .int r3), (0, .ref scr9), (1, .ref v1), (2, .ref v2), (3, .ref v3), (4, .int v4)]) hC dL_law_1228 (by decide) rfl ?_
  refine go_aload_n hC dL_law_1230 rfl 3 rfl ?_
  refine go_aload_n hC dL_law_1231 rfl 1 rfl ?_
  refine go_iload hC dL_law_1232 5 rfl ?_
  refine go_iconst hC dL_law_1234 (v := (1 : Int32)) (by decide +kernel) ?_
  refine go_iadd hC dL_law_1235 ?_
  obtain ⟨h7, h⟩ := os_1 h
  refine go_sld hC hS h7 dL_law_1236 ?_
  refine go_aload_n hC dL_law_1237 rfl 1 rfl ?_
  refine go_iload hC dL_law_1238 5 rfl ?_
  refine go_iconst hC dL_law_1240 (v := (2 : Int32)) (by decide +kernel) ?_
  refine go_iadd hC dL_law_1241 ?_
  obtain ⟨h8, h⟩ := os_1 h
  refine go_sld hC hS h8 dL_law_1242 ?_
  obtain ⟨h12, h⟩ := os_1 h
  obtain ⟨r9, M10, h11, h⟩ := os_c h
  refine go_callV (bytes := cX5_locked) (maxL := 3) (ret := (some .int)) (n := 2) (As := [.int (xs9 ((v4 + (1 : Int32))).toNatClampNeg), .int (xs9 ((v4 + (2 : Int32))).toNatClampNeg)]) (st := []) hE (c_X5_locked K.2.1 h11) (by unfold okY; decide +kernel) rfl h12 rfl (C := RX5) (T := TX5) (N := 28) rfl m_796 m_793 m_794 m_795 m_5 rfl (by simp [Value.category]) (by decide) (by decide) dL_law_1243 ?_
  refine go_eq (pc' := 1246) (st' := [.int r9]) (M' := M10) (lv' := [(5, .int r3), (0, .ref scr9), (1, .ref v1), (2, .ref v2), (3, .ref v3), (4, .int v4)]) ?_ rfl rfl rfl rfl
  refine go_istore (lv' := [(6, .int r9), (5, .int r3), (0, .ref scr9), (1, .ref v1), (2, .ref v2), (3, .ref v3), (4, .int v4)]) hC dL_law_1246 (by decide) rfl ?_
  refine go_aload_n hC dL_law_1248 rfl 4 rfl ?_
  obtain ⟨h16, h⟩ := os_1 h
  obtain ⟨r13, M14, h15, h⟩ := os_c h
  refine go_callV (bytes := cX5_thrown) (maxL := 1) (ret := (some .int)) (n := 0) (As := []) (st := []) hE (c_X5_thrown K.2.1 h15) (by unfold okY; decide +kernel) rfl h16 rfl (C := RX5) (T := TX5) (N := 28) rfl m_132 m_129 m_130 m_131 m_5 rfl (by simp [Value.category]) (by decide) (by decide) dL_law_1249 ?_
  refine go_eq (pc' := 1252) (st' := [.int r13]) (M' := M14) (lv' := [(6, .int r9), (5, .int r3), (0, .ref scr9), (1, .ref v1), (2, .ref v2), (3, .ref v3), (4, .int v4)]) ?_ rfl rfl rfl rfl
  refine go_iload hC dL_law_1252 1 rfl ?_
  refine go_icmp_eq (t := 1259) hC dL_law_1254 (by decide) (fun c17 => ?_) (fun c17 => ?_)
  · have h := os_t h c17
    refine go_iload hC dL_law_1259 1 rfl ?_
    refine go_if_ne (t := 1276) hC dL_law_1261 (by decide) (fun c18 => ?_) (fun c18 => ?_)
    · have h := os_f h c18
      refine go_sub (lv' := [(0, .ref scr9), (1, .ref v1), (2, .ref v2), (3, .ref v3), (4, .int v4)]) [2, 3, 4, 5, 6] rfl ?_
      exact tL_law_1276 hE hl hS hfin hrec23 _ _ _ _ _ h
    · have h := os_t h c18
      refine go_aload_n hC dL_law_1264 rfl 5 rfl ?_
      refine go_iconst hC dL_law_1265 (v := (0 : Int32)) (by decide +kernel) ?_
      obtain ⟨h19, h⟩ := os_1 h
      refine go_lald hC h19.1 h19.2 dL_law_1266 ?_
      refine go_iload hC dL_law_1267 0 rfl ?_
      refine go_i2l hC dL_law_1269 ?_
      refine go_lcmp hC dL_law_1270 ?_
      refine go_if_eq (t := 1276) hC dL_law_1271 (by decide) (fun c20 => ?_) (fun c20 => ?_)
      · have h := os_t h c20
        refine go_sub (lv' := [(0, .ref scr9), (1, .ref v1), (2, .ref v2), (3, .ref v3), (4, .int v4)]) [2, 3, 4, 5, 6] rfl ?_
        exact tL_law_1276 hE hl hS hfin hrec23 _ _ _ _ _ h
      · have h := os_f h c20
        refine go_iconst hC dL_law_1274 (v := (0 : Int32)) (by decide +kernel) ?_
        exact absurd (show (0 : Int32) = 1 from congrArg Prod.fst (Option.some.inj h)) (by decide)
  · have h := os_f h c17
    refine go_iconst hC dL_law_1257 (v := (0 : Int32)) (by decide +kernel) ?_
    exact absurd (show (0 : Int32) = 1 from congrArg Prod.fst (Option.some.inj h)) (by decide)
def fL_law_1332 (x9 : Cx) (k9 : Nat) (L9 : Nat) (xs9 : Nat → Int32) (rec23 : Nat → Nat → Nat → Int32 → Mm → Option (Int32 × Mm)) (v1 : Nat) (v2 : Nat) (v3 : Nat) (v4 : Int32) (M : Mm) : Option (Int32 × Mm) :=
  fL_law_1335 x9 k9 L9 xs9 rec23 v1 v2 v3 v4 M
set_option maxRecDepth 100000 in
set_option maxHeartbeats 4000000 in
theorem tL_law_1332 {x9 : Cx} {nm9 : String} {scr9 L9 : Nat} {xs9 : Nat → Int32} {K : Ct} {k9 : Nat} {M0 M9 : Mm} {Q9 : State → Prop} (hE : Ce x9 K RL cL_law 7 (some .boolean) 16 626 nm9 M0) (hl : K.2.1.stackTraces = false) (hS : Sc x9 K scr9 L9 xs9) (hfin : ∀ (lv : List (Nat × Value)) (pc : Nat) (M : Mm), decode cL_law pc = .ok (.ireturn, 1) → Go x9 K 7 Q9 pc lv [.int 1] M) {rec23 : Nat → Nat → Nat → Int32 → Mm → Option (Int32 × Mm)} (hrec23 : ∀ (v1 : Nat) (v2 : Nat) (v3 : Nat) (v4 : Int32) (M : Mm), rec23 v1 v2 v3 v4 M = some (1, M9) → Go x9 K 7 Q9 23 [(0, .ref scr9), (1, .ref v1), (2, .ref v2), (3, .ref v3), (4, .int v4)] [] M) (v1 : Nat) (v2 : Nat) (v3 : Nat) (v4 : Int32) (M : Mm) (h : fL_law_1332 x9 k9 L9 xs9 rec23 v1 v2 v3 v4 M = some (1, M9)) : Go x9 K 7 Q9 1332 [(0, .ref scr9), (1, .ref v1), (2, .ref v2), (3, .ref v3), (4, .int v4)] [] M := by
  have hC := hE.1
  have hnm := hE.2.2.2.2.2.2.2.1
  unfold fL_law_1332 at h
  refine go_goto (t := 1335) hC dL_law_1332 (by decide) ?_
  exact tL_law_1335 hE hl hS hfin hrec23 _ _ _ _ _ h
def fL_law_1279 (x9 : Cx) (k9 : Nat) (L9 : Nat) (xs9 : Nat → Int32) (rec23 : Nat → Nat → Nat → Int32 → Mm → Option (Int32 × Mm)) (v1 : Nat) (v2 : Nat) (v3 : Nat) (v4 : Int32) (M : Mm) : Option (Int32 × Mm) :=
  if ¬ ((v4 + (1 : Int32)) < 0 ∨ L9 ≤ ((v4 + (1 : Int32))).toNatClampNeg) then ob2 (fL_total x9 k9 v1 (xs9 ((v4 + (1 : Int32))).toNatClampNeg) v3 M) (fun r2 M3 => if ¬ ((v4 + (1 : Int32)) < 0 ∨ L9 ≤ ((v4 + (1 : Int32))).toNatClampNeg) then if mK M3 v2 = 6 then ob2 (fX5_total x9 k9 v2 (xs9 ((v4 + (1 : Int32))).toNatClampNeg) M3) (fun r7 M8 => if mK M8 v2 = 6 then ob2 (fX5_thrown x9 k9 v2 M8) (fun r11 M12 => if r11 = r2 then if r2 = 0 then if mK M12 v3 = 12 ∧ ¬ ((0 : Int32) < 0 ∨ mN M12 v3 ≤ ((0 : Int32)).toNatClampNeg) then if (lg_cmp (mJ M12 v3 ((0 : Int32)).toNatClampNeg) (r7).toInt64) = 0 then fL_law_1332 x9 k9 L9 xs9 rec23 v1 v2 v3 v4 M12 else some ((0 : Int32), M12) else none else fL_law_1332 x9 k9 L9 xs9 rec23 v1 v2 v3 v4 M12 else some ((0 : Int32), M12)) else none) else none else none) else none
set_option maxRecDepth 100000 in
set_option maxHeartbeats 4000000 in
theorem tL_law_1279 {x9 : Cx} {nm9 : String} {scr9 L9 : Nat} {xs9 : Nat → Int32} {K : Ct} {k9 : Nat} {M0 M9 : Mm} {Q9 : State → Prop} (hE : Ce x9 K RL cL_law 7 (some .boolean) 16 626 nm9 M0) (hl : K.2.1.stackTraces = false) (hS : Sc x9 K scr9 L9 xs9) (hfin : ∀ (lv : List (Nat × Value)) (pc : Nat) (M : Mm), decode cL_law pc = .ok (.ireturn, 1) → Go x9 K 7 Q9 pc lv [.int 1] M) {rec23 : Nat → Nat → Nat → Int32 → Mm → Option (Int32 × Mm)} (hrec23 : ∀ (v1 : Nat) (v2 : Nat) (v3 : Nat) (v4 : Int32) (M : Mm), rec23 v1 v2 v3 v4 M = some (1, M9) → Go x9 K 7 Q9 23 [(0, .ref scr9), (1, .ref v1), (2, .ref v2), (3, .ref v3), (4, .int v4)] [] M) (v1 : Nat) (v2 : Nat) (v3 : Nat) (v4 : Int32) (M : Mm) (h : fL_law_1279 x9 k9 L9 xs9 rec23 v1 v2 v3 v4 M = some (1, M9)) : Go x9 K 7 Q9 1279 [(0, .ref scr9), (1, .ref v1), (2, .ref v2), (3, .ref v3), (4, .int v4)] [] M := by
  have hC := hE.1
  have hnm := hE.2.2.2.2.2.2.2.1
  unfold fL_law_1279 at h
  refine go_aload_n hC dL_law_1279 rfl 1 rfl ?_
  refine go_aload_n hC dL_law_1280 rfl 0 rfl ?_
  refine go_iload hC dL_law_1281 4 rfl ?_
  refine go_iconst hC dL_law_1283 (v := (1 : Int32)) (by decide +kernel) ?_
  refine go_iadd hC dL_law_1284 ?_
  obtain ⟨h1, h⟩ := os_1 h
  refine go_sld hC hS h1 dL_law_1285 ?_
  refine go_aload_n hC dL_law_1286 rfl 3 rfl ?_
  obtain ⟨r2, M3, h4, h⟩ := os_c h
  refine go_callSH (bytes := cL_total) (maxL := 4) (ret := (some .int)) (n := 3) (As := [.ref v1, .int (xs9 ((v4 + (1 : Int32))).toNatClampNeg), .ref v3]) (st := []) hE (c_L_total K.2.1 hl h4) (by unfold okY; decide +kernel) rfl m_799 m_797 m_798 m_108 rfl (by simp [Value.category]) (by decide) (by decide) dL_law_1287 ?_
  refine go_eq (pc' := 1290) (st' := [.int r2]) (M' := M3) (lv' := [(0, .ref scr9), (1, .ref v1), (2, .ref v2), (3, .ref v3), (4, .int v4)]) ?_ rfl rfl rfl rfl
  refine go_istore (lv' := [(5, .int r2), (0, .ref scr9), (1, .ref v1), (2, .ref v2), (3, .ref v3), (4, .int v4)]) hC dL_law_1290 (by decide) rfl ?_
  refine go_aload_n hC dL_law_1292 rfl 3 rfl ?_
  refine go_aload_n hC dL_law_1293 rfl 1 rfl ?_
  refine go_iload hC dL_law_1294 5 rfl ?_
  refine go_iconst hC dL_law_1296 (v := (1 : Int32)) (by decide +kernel) ?_
  refine go_iadd hC dL_law_1297 ?_
  obtain ⟨h6, h⟩ := os_1 h
  refine go_sld hC hS h6 dL_law_1298 ?_
  obtain ⟨h10, h⟩ := os_1 h
  obtain ⟨r7, M8, h9, h⟩ := os_c h
  refine go_callV (bytes := cX5_total) (maxL := 4) (ret := (some .int)) (n := 1) (As := [.int (xs9 ((v4 + (1 : Int32))).toNatClampNeg)]) (st := []) hE (c_X5_total K.2.1 h9) (by unfold okY; decide +kernel) rfl h10 rfl (C := RX5) (T := TX5) (N := 28) rfl m_815 m_812 m_813 m_814 m_5 rfl (by simp [Value.category]) (by decide) (by decide) dL_law_1299 ?_
  refine go_eq (pc' := 1302) (st' := [.int r7]) (M' := M8) (lv' := [(5, .int r2), (0, .ref scr9), (1, .ref v1), (2, .ref v2), (3, .ref v3), (4, .int v4)]) ?_ rfl rfl rfl rfl
  refine go_istore (lv' := [(6, .int r7), (5, .int r2), (0, .ref scr9), (1, .ref v1), (2, .ref v2), (3, .ref v3), (4, .int v4)]) hC dL_law_1302 (by decide) rfl ?_
  refine go_aload_n hC dL_law_1304 rfl 4 rfl ?_
  obtain ⟨h14, h⟩ := os_1 h
  obtain ⟨r11, M12, h13, h⟩ := os_c h
  refine go_callV (bytes := cX5_thrown) (maxL := 1) (ret := (some .int)) (n := 0) (As := []) (st := []) hE (c_X5_thrown K.2.1 h13) (by unfold okY; decide +kernel) rfl h14 rfl (C := RX5) (T := TX5) (N := 28) rfl m_132 m_129 m_130 m_131 m_5 rfl (by simp [Value.category]) (by decide) (by decide) dL_law_1305 ?_
  refine go_eq (pc' := 1308) (st' := [.int r11]) (M' := M12) (lv' := [(6, .int r7), (5, .int r2), (0, .ref scr9), (1, .ref v1), (2, .ref v2), (3, .ref v3), (4, .int v4)]) ?_ rfl rfl rfl rfl
  refine go_iload hC dL_law_1308 1 rfl ?_
  refine go_icmp_eq (t := 1315) hC dL_law_1310 (by decide) (fun c15 => ?_) (fun c15 => ?_)
  · have h := os_t h c15
    refine go_iload hC dL_law_1315 1 rfl ?_
    refine go_if_ne (t := 1332) hC dL_law_1317 (by decide) (fun c16 => ?_) (fun c16 => ?_)
    · have h := os_f h c16
      refine go_sub (lv' := [(0, .ref scr9), (1, .ref v1), (2, .ref v2), (3, .ref v3), (4, .int v4)]) [2, 3, 4, 5, 6] rfl ?_
      exact tL_law_1332 hE hl hS hfin hrec23 _ _ _ _ _ h
    · have h := os_t h c16
      refine go_aload_n hC dL_law_1320 rfl 5 rfl ?_
      refine go_iconst hC dL_law_1321 (v := (0 : Int32)) (by decide +kernel) ?_
      obtain ⟨h17, h⟩ := os_1 h
      refine go_lald hC h17.1 h17.2 dL_law_1322 ?_
      refine go_iload hC dL_law_1323 0 rfl ?_
      refine go_i2l hC dL_law_1325 ?_
      refine go_lcmp hC dL_law_1326 ?_
      refine go_if_eq (t := 1332) hC dL_law_1327 (by decide) (fun c18 => ?_) (fun c18 => ?_)
      · have h := os_t h c18
        refine go_sub (lv' := [(0, .ref scr9), (1, .ref v1), (2, .ref v2), (3, .ref v3), (4, .int v4)]) [2, 3, 4, 5, 6] rfl ?_
        exact tL_law_1332 hE hl hS hfin hrec23 _ _ _ _ _ h
      · have h := os_f h c18
        refine go_iconst hC dL_law_1330 (v := (0 : Int32)) (by decide +kernel) ?_
        exact absurd (show (0 : Int32) = 1 from congrArg Prod.fst (Option.some.inj h)) (by decide)
  · have h := os_f h c15
    refine go_iconst hC dL_law_1313 (v := (0 : Int32)) (by decide +kernel) ?_
    exact absurd (show (0 : Int32) = 1 from congrArg Prod.fst (Option.some.inj h)) (by decide)
def fL_law_23 (x9 : Cx) (k9 : Nat) (L9 : Nat) (xs9 : Nat → Int32) : Nat → Nat → Nat → Nat → Int32 → Mm → Option (Int32 × Mm)
  | 0, _, _, _, _, _ => none
  | n9 + 1, v1, v2, v3, v4, M => if ((nI L9) - (5 : Int32)) < v4 then some ((1 : Int32), M) else if ¬ (v4 < 0 ∨ L9 ≤ (v4).toNatClampNeg) then if ((xs9 (v4).toNatClampNeg) &&& (31 : Int32)) = (0 : Int32) then fL_law_132 x9 k9 L9 xs9 (fL_law_23 x9 k9 L9 xs9 n9) v1 v2 v3 v4 M else if ((xs9 (v4).toNatClampNeg) &&& (31 : Int32)) = (1 : Int32) then fL_law_168 x9 k9 L9 xs9 (fL_law_23 x9 k9 L9 xs9 n9) v1 v2 v3 v4 M else if ((xs9 (v4).toNatClampNeg) &&& (31 : Int32)) = (2 : Int32) then fL_law_224 x9 k9 L9 xs9 (fL_law_23 x9 k9 L9 xs9 n9) v1 v2 v3 v4 M else if ((xs9 (v4).toNatClampNeg) &&& (31 : Int32)) = (3 : Int32) then fL_law_292 x9 k9 L9 xs9 (fL_law_23 x9 k9 L9 xs9 n9) v1 v2 v3 v4 M else if ((xs9 (v4).toNatClampNeg) &&& (31 : Int32)) = (4 : Int32) then fL_law_372 x9 k9 L9 xs9 (fL_law_23 x9 k9 L9 xs9 n9) v1 v2 v3 v4 M else if ((xs9 (v4).toNatClampNeg) &&& (31 : Int32)) = (5 : Int32) then fL_law_464 x9 k9 L9 xs9 (fL_law_23 x9 k9 L9 xs9 n9) v1 v2 v3 v4 M else if ((xs9 (v4).toNatClampNeg) &&& (31 : Int32)) = (6 : Int32) then fL_law_544 x9 k9 L9 xs9 (fL_law_23 x9 k9 L9 xs9 n9) v1 v2 v3 v4 M else if ((xs9 (v4).toNatClampNeg) &&& (31 : Int32)) = (7 : Int32) then fL_law_600 x9 k9 L9 xs9 (fL_law_23 x9 k9 L9 xs9 n9) v1 v2 v3 v4 M else if ((xs9 (v4).toNatClampNeg) &&& (31 : Int32)) = (8 : Int32) then fL_law_636 x9 k9 L9 xs9 (fL_law_23 x9 k9 L9 xs9 n9) v1 v2 v3 v4 M else if ((xs9 (v4).toNatClampNeg) &&& (31 : Int32)) = (9 : Int32) then fL_law_692 x9 k9 L9 xs9 (fL_law_23 x9 k9 L9 xs9 n9) v1 v2 v3 v4 M else if ((xs9 (v4).toNatClampNeg) &&& (31 : Int32)) = (10 : Int32) then fL_law_748 x9 k9 L9 xs9 (fL_law_23 x9 k9 L9 xs9 n9) v1 v2 v3 v4 M else if ((xs9 (v4).toNatClampNeg) &&& (31 : Int32)) = (11 : Int32) then fL_law_804 x9 k9 L9 xs9 (fL_law_23 x9 k9 L9 xs9 n9) v1 v2 v3 v4 M else if ((xs9 (v4).toNatClampNeg) &&& (31 : Int32)) = (12 : Int32) then fL_law_867 x9 k9 L9 xs9 (fL_law_23 x9 k9 L9 xs9 n9) v1 v2 v3 v4 M else if ((xs9 (v4).toNatClampNeg) &&& (31 : Int32)) = (13 : Int32) then fL_law_935 x9 k9 L9 xs9 (fL_law_23 x9 k9 L9 xs9 n9) v1 v2 v3 v4 M else if ((xs9 (v4).toNatClampNeg) &&& (31 : Int32)) = (14 : Int32) then fL_law_971 x9 k9 L9 xs9 (fL_law_23 x9 k9 L9 xs9 n9) v1 v2 v3 v4 M else if ((xs9 (v4).toNatClampNeg) &&& (31 : Int32)) = (15 : Int32) then fL_law_1007 x9 k9 L9 xs9 (fL_law_23 x9 k9 L9 xs9 n9) v1 v2 v3 v4 M else if ((xs9 (v4).toNatClampNeg) &&& (31 : Int32)) = (16 : Int32) then fL_law_1075 x9 k9 L9 xs9 (fL_law_23 x9 k9 L9 xs9 n9) v1 v2 v3 v4 M else if ((xs9 (v4).toNatClampNeg) &&& (31 : Int32)) = (17 : Int32) then fL_law_1143 x9 k9 L9 xs9 (fL_law_23 x9 k9 L9 xs9 n9) v1 v2 v3 v4 M else if ((xs9 (v4).toNatClampNeg) &&& (31 : Int32)) = (18 : Int32) then fL_law_1211 x9 k9 L9 xs9 (fL_law_23 x9 k9 L9 xs9 n9) v1 v2 v3 v4 M else if ((xs9 (v4).toNatClampNeg) &&& (31 : Int32)) = (19 : Int32) then fL_law_1279 x9 k9 L9 xs9 (fL_law_23 x9 k9 L9 xs9 n9) v1 v2 v3 v4 M else fL_law_1335 x9 k9 L9 xs9 (fL_law_23 x9 k9 L9 xs9 n9) v1 v2 v3 v4 M else none
set_option maxRecDepth 100000 in
set_option maxHeartbeats 4000000 in
theorem tL_law_23 {x9 : Cx} {nm9 : String} {scr9 L9 : Nat} {xs9 : Nat → Int32} {K : Ct} {k9 : Nat} {M0 M9 : Mm} {Q9 : State → Prop} (hE : Ce x9 K RL cL_law 7 (some .boolean) 16 626 nm9 M0) (hl : K.2.1.stackTraces = false) (hS : Sc x9 K scr9 L9 xs9) (hfin : ∀ (lv : List (Nat × Value)) (pc : Nat) (M : Mm), decode cL_law pc = .ok (.ireturn, 1) → Go x9 K 7 Q9 pc lv [.int 1] M) : ∀ (n9 : Nat) (v1 : Nat) (v2 : Nat) (v3 : Nat) (v4 : Int32) (M : Mm), fL_law_23 x9 k9 L9 xs9 n9 v1 v2 v3 v4 M = some (1, M9) → Go x9 K 7 Q9 23 [(0, .ref scr9), (1, .ref v1), (2, .ref v2), (3, .ref v3), (4, .int v4)] [] M := by
  have hC := hE.1
  have hnm := hE.2.2.2.2.2.2.2.1
  intro n9
  induction n9 with
  | zero => intro _ _ _ _ _ h; cases h
  | succ n9 ih =>
    intro v1 v2 v3 v4 M h
    rw [fL_law_23] at h
    refine go_iload hC dL_law_23 4 rfl ?_
    refine go_aload_n hC dL_law_25 rfl 0 rfl ?_
    refine go_slen hC hS dL_law_26 ?_
    refine go_iconst hC dL_law_27 (v := (5 : Int32)) (by decide +kernel) ?_
    refine go_isub hC dL_law_28 ?_
    refine go_icmp_gt (t := 1341) hC dL_law_29 (by decide) (fun c1 => ?_) (fun c1 => ?_)
    · have h := os_t h c1
      refine go_iconst hC dL_law_1341 (v := (1 : Int32)) (by decide +kernel) ?_
      exact hfin _ _ _ dL_law_1342
    · have h := os_f h c1
      refine go_aload_n hC dL_law_32 rfl 0 rfl ?_
      refine go_iload hC dL_law_33 4 rfl ?_
      obtain ⟨h2, h⟩ := os_1 h
      refine go_sld hC hS h2 dL_law_35 ?_
      refine go_bipush hC dL_law_36 (v := (31 : Int32)) (by decide +kernel) ?_
      refine go_iand hC dL_law_38 ?_
      by_cases c3 : ((xs9 (v4).toNatClampNeg) &&& (31 : Int32)) = (0 : Int32)
      · have h := os_t h c3
        refine go_tabIn (a := ((xs9 (v4).toNatClampNeg) &&& (31 : Int32))) (off := 93) (t := 132) hC dL_law_39 (by rw [c3]; decide +kernel) (by rw [c3]; decide +kernel) (by rw [c3]; decide +kernel) (by decide) ?_
        exact tL_law_132 hE hl hS hfin ih _ _ _ _ _ h
      have h := os_f h c3
      by_cases c4 : ((xs9 (v4).toNatClampNeg) &&& (31 : Int32)) = (1 : Int32)
      · have h := os_t h c4
        refine go_tabIn (a := ((xs9 (v4).toNatClampNeg) &&& (31 : Int32))) (off := 129) (t := 168) hC dL_law_39 (by rw [c4]; decide +kernel) (by rw [c4]; decide +kernel) (by rw [c4]; decide +kernel) (by decide) ?_
        exact tL_law_168 hE hl hS hfin ih _ _ _ _ _ h
      have h := os_f h c4
      by_cases c5 : ((xs9 (v4).toNatClampNeg) &&& (31 : Int32)) = (2 : Int32)
      · have h := os_t h c5
        refine go_tabIn (a := ((xs9 (v4).toNatClampNeg) &&& (31 : Int32))) (off := 185) (t := 224) hC dL_law_39 (by rw [c5]; decide +kernel) (by rw [c5]; decide +kernel) (by rw [c5]; decide +kernel) (by decide) ?_
        exact tL_law_224 hE hl hS hfin ih _ _ _ _ _ h
      have h := os_f h c5
      by_cases c6 : ((xs9 (v4).toNatClampNeg) &&& (31 : Int32)) = (3 : Int32)
      · have h := os_t h c6
        refine go_tabIn (a := ((xs9 (v4).toNatClampNeg) &&& (31 : Int32))) (off := 253) (t := 292) hC dL_law_39 (by rw [c6]; decide +kernel) (by rw [c6]; decide +kernel) (by rw [c6]; decide +kernel) (by decide) ?_
        exact tL_law_292 hE hl hS hfin ih _ _ _ _ _ h
      have h := os_f h c6
      by_cases c7 : ((xs9 (v4).toNatClampNeg) &&& (31 : Int32)) = (4 : Int32)
      · have h := os_t h c7
        refine go_tabIn (a := ((xs9 (v4).toNatClampNeg) &&& (31 : Int32))) (off := 333) (t := 372) hC dL_law_39 (by rw [c7]; decide +kernel) (by rw [c7]; decide +kernel) (by rw [c7]; decide +kernel) (by decide) ?_
        exact tL_law_372 hE hl hS hfin ih _ _ _ _ _ h
      have h := os_f h c7
      by_cases c8 : ((xs9 (v4).toNatClampNeg) &&& (31 : Int32)) = (5 : Int32)
      · have h := os_t h c8
        refine go_tabIn (a := ((xs9 (v4).toNatClampNeg) &&& (31 : Int32))) (off := 425) (t := 464) hC dL_law_39 (by rw [c8]; decide +kernel) (by rw [c8]; decide +kernel) (by rw [c8]; decide +kernel) (by decide) ?_
        exact tL_law_464 hE hl hS hfin ih _ _ _ _ _ h
      have h := os_f h c8
      by_cases c9 : ((xs9 (v4).toNatClampNeg) &&& (31 : Int32)) = (6 : Int32)
      · have h := os_t h c9
        refine go_tabIn (a := ((xs9 (v4).toNatClampNeg) &&& (31 : Int32))) (off := 505) (t := 544) hC dL_law_39 (by rw [c9]; decide +kernel) (by rw [c9]; decide +kernel) (by rw [c9]; decide +kernel) (by decide) ?_
        exact tL_law_544 hE hl hS hfin ih _ _ _ _ _ h
      have h := os_f h c9
      by_cases c10 : ((xs9 (v4).toNatClampNeg) &&& (31 : Int32)) = (7 : Int32)
      · have h := os_t h c10
        refine go_tabIn (a := ((xs9 (v4).toNatClampNeg) &&& (31 : Int32))) (off := 561) (t := 600) hC dL_law_39 (by rw [c10]; decide +kernel) (by rw [c10]; decide +kernel) (by rw [c10]; decide +kernel) (by decide) ?_
        exact tL_law_600 hE hl hS hfin ih _ _ _ _ _ h
      have h := os_f h c10
      by_cases c11 : ((xs9 (v4).toNatClampNeg) &&& (31 : Int32)) = (8 : Int32)
      · have h := os_t h c11
        refine go_tabIn (a := ((xs9 (v4).toNatClampNeg) &&& (31 : Int32))) (off := 597) (t := 636) hC dL_law_39 (by rw [c11]; decide +kernel) (by rw [c11]; decide +kernel) (by rw [c11]; decide +kernel) (by decide) ?_
        exact tL_law_636 hE hl hS hfin ih _ _ _ _ _ h
      have h := os_f h c11
      by_cases c12 : ((xs9 (v4).toNatClampNeg) &&& (31 : Int32)) = (9 : Int32)
      · have h := os_t h c12
        refine go_tabIn (a := ((xs9 (v4).toNatClampNeg) &&& (31 : Int32))) (off := 653) (t := 692) hC dL_law_39 (by rw [c12]; decide +kernel) (by rw [c12]; decide +kernel) (by rw [c12]; decide +kernel) (by decide) ?_
        exact tL_law_692 hE hl hS hfin ih _ _ _ _ _ h
      have h := os_f h c12
      by_cases c13 : ((xs9 (v4).toNatClampNeg) &&& (31 : Int32)) = (10 : Int32)
      · have h := os_t h c13
        refine go_tabIn (a := ((xs9 (v4).toNatClampNeg) &&& (31 : Int32))) (off := 709) (t := 748) hC dL_law_39 (by rw [c13]; decide +kernel) (by rw [c13]; decide +kernel) (by rw [c13]; decide +kernel) (by decide) ?_
        exact tL_law_748 hE hl hS hfin ih _ _ _ _ _ h
      have h := os_f h c13
      by_cases c14 : ((xs9 (v4).toNatClampNeg) &&& (31 : Int32)) = (11 : Int32)
      · have h := os_t h c14
        refine go_tabIn (a := ((xs9 (v4).toNatClampNeg) &&& (31 : Int32))) (off := 765) (t := 804) hC dL_law_39 (by rw [c14]; decide +kernel) (by rw [c14]; decide +kernel) (by rw [c14]; decide +kernel) (by decide) ?_
        exact tL_law_804 hE hl hS hfin ih _ _ _ _ _ h
      have h := os_f h c14
      by_cases c15 : ((xs9 (v4).toNatClampNeg) &&& (31 : Int32)) = (12 : Int32)
      · have h := os_t h c15
        refine go_tabIn (a := ((xs9 (v4).toNatClampNeg) &&& (31 : Int32))) (off := 828) (t := 867) hC dL_law_39 (by rw [c15]; decide +kernel) (by rw [c15]; decide +kernel) (by rw [c15]; decide +kernel) (by decide) ?_
        exact tL_law_867 hE hl hS hfin ih _ _ _ _ _ h
      have h := os_f h c15
      by_cases c16 : ((xs9 (v4).toNatClampNeg) &&& (31 : Int32)) = (13 : Int32)
      · have h := os_t h c16
        refine go_tabIn (a := ((xs9 (v4).toNatClampNeg) &&& (31 : Int32))) (off := 896) (t := 935) hC dL_law_39 (by rw [c16]; decide +kernel) (by rw [c16]; decide +kernel) (by rw [c16]; decide +kernel) (by decide) ?_
        exact tL_law_935 hE hl hS hfin ih _ _ _ _ _ h
      have h := os_f h c16
      by_cases c17 : ((xs9 (v4).toNatClampNeg) &&& (31 : Int32)) = (14 : Int32)
      · have h := os_t h c17
        refine go_tabIn (a := ((xs9 (v4).toNatClampNeg) &&& (31 : Int32))) (off := 932) (t := 971) hC dL_law_39 (by rw [c17]; decide +kernel) (by rw [c17]; decide +kernel) (by rw [c17]; decide +kernel) (by decide) ?_
        exact tL_law_971 hE hl hS hfin ih _ _ _ _ _ h
      have h := os_f h c17
      by_cases c18 : ((xs9 (v4).toNatClampNeg) &&& (31 : Int32)) = (15 : Int32)
      · have h := os_t h c18
        refine go_tabIn (a := ((xs9 (v4).toNatClampNeg) &&& (31 : Int32))) (off := 968) (t := 1007) hC dL_law_39 (by rw [c18]; decide +kernel) (by rw [c18]; decide +kernel) (by rw [c18]; decide +kernel) (by decide) ?_
        exact tL_law_1007 hE hl hS hfin ih _ _ _ _ _ h
      have h := os_f h c18
      by_cases c19 : ((xs9 (v4).toNatClampNeg) &&& (31 : Int32)) = (16 : Int32)
      · have h := os_t h c19
        refine go_tabIn (a := ((xs9 (v4).toNatClampNeg) &&& (31 : Int32))) (off := 1036) (t := 1075) hC dL_law_39 (by rw [c19]; decide +kernel) (by rw [c19]; decide +kernel) (by rw [c19]; decide +kernel) (by decide) ?_
        exact tL_law_1075 hE hl hS hfin ih _ _ _ _ _ h
      have h := os_f h c19
      by_cases c20 : ((xs9 (v4).toNatClampNeg) &&& (31 : Int32)) = (17 : Int32)
      · have h := os_t h c20
        refine go_tabIn (a := ((xs9 (v4).toNatClampNeg) &&& (31 : Int32))) (off := 1104) (t := 1143) hC dL_law_39 (by rw [c20]; decide +kernel) (by rw [c20]; decide +kernel) (by rw [c20]; decide +kernel) (by decide) ?_
        exact tL_law_1143 hE hl hS hfin ih _ _ _ _ _ h
      have h := os_f h c20
      by_cases c21 : ((xs9 (v4).toNatClampNeg) &&& (31 : Int32)) = (18 : Int32)
      · have h := os_t h c21
        refine go_tabIn (a := ((xs9 (v4).toNatClampNeg) &&& (31 : Int32))) (off := 1172) (t := 1211) hC dL_law_39 (by rw [c21]; decide +kernel) (by rw [c21]; decide +kernel) (by rw [c21]; decide +kernel) (by decide) ?_
        exact tL_law_1211 hE hl hS hfin ih _ _ _ _ _ h
      have h := os_f h c21
      by_cases c22 : ((xs9 (v4).toNatClampNeg) &&& (31 : Int32)) = (19 : Int32)
      · have h := os_t h c22
        refine go_tabIn (a := ((xs9 (v4).toNatClampNeg) &&& (31 : Int32))) (off := 1240) (t := 1279) hC dL_law_39 (by rw [c22]; decide +kernel) (by rw [c22]; decide +kernel) (by rw [c22]; decide +kernel) (by decide) ?_
        exact tL_law_1279 hE hl hS hfin ih _ _ _ _ _ h
      have h := os_f h c22
      refine go_tabOut (a := ((xs9 (v4).toNatClampNeg) &&& (31 : Int32))) (t := 1335) hC dL_law_39 (by have z0 := lv_neT c3 (a := 0) (by decide +kernel); have z1 := lv_neT c4 (a := 1) (by decide +kernel); have z2 := lv_neT c5 (a := 2) (by decide +kernel); have z3 := lv_neT c6 (a := 3) (by decide +kernel); have z4 := lv_neT c7 (a := 4) (by decide +kernel); have z5 := lv_neT c8 (a := 5) (by decide +kernel); have z6 := lv_neT c9 (a := 6) (by decide +kernel); have z7 := lv_neT c10 (a := 7) (by decide +kernel); have z8 := lv_neT c11 (a := 8) (by decide +kernel); have z9 := lv_neT c12 (a := 9) (by decide +kernel); have z10 := lv_neT c13 (a := 10) (by decide +kernel); have z11 := lv_neT c14 (a := 11) (by decide +kernel); have z12 := lv_neT c15 (a := 12) (by decide +kernel); have z13 := lv_neT c16 (a := 13) (by decide +kernel); have z14 := lv_neT c17 (a := 14) (by decide +kernel); have z15 := lv_neT c18 (a := 15) (by decide +kernel); have z16 := lv_neT c19 (a := 16) (by decide +kernel); have z17 := lv_neT c20 (a := 17) (by decide +kernel); have z18 := lv_neT c21 (a := 18) (by decide +kernel); have z19 := lv_neT c22 (a := 19) (by decide +kernel); omega) (by decide) ?_
      exact tL_law_1335 hE hl hS hfin ih _ _ _ _ _ h
def fL_law (x9 : Cx) (k9 : Nat) (L9 : Nat) (xs9 : Nat → Int32) (M : Mm) : Option (Int32 × Mm) :=
  if mX M + 1 ≤ xC x9 ∧ mS M + 7 ≤ xL x9 then ob2 (fX4_init x9 k9 (mX M) (nO M 5 0 7)) (fun r2 M3 => if mX M3 + 1 ≤ xC x9 ∧ mS M3 + 28 ≤ xL x9 then ob2 (fX5_init x9 k9 (mX M3) (nO M3 6 0 28)) (fun r7 M8 => if ¬ (1 : Int32) < 0 ∧ ((1 : Int32)).toNatClampNeg * 8 ≤ 536870912 ∧ mX M8 + 1 ≤ xC x9 ∧ mS M8 + ((1 : Int32)).toNatClampNeg ≤ xL x9 then fL_law_23 x9 k9 L9 xs9 k9 (mX M) (mX M3) (mX M8) (0 : Int32) (nO M8 12 ((1 : Int32)).toNatClampNeg ((1 : Int32)).toNatClampNeg) else none) else none) else none
set_option maxRecDepth 100000 in
set_option maxHeartbeats 4000000 in
theorem tL_law_0 {x9 : Cx} {nm9 : String} {scr9 L9 : Nat} {xs9 : Nat → Int32} {K : Ct} {k9 : Nat} {M0 M9 : Mm} {Q9 : State → Prop} (hE : Ce x9 K RL cL_law 7 (some .boolean) 16 626 nm9 M0) (hl : K.2.1.stackTraces = false) (hS : Sc x9 K scr9 L9 xs9) (hfin : ∀ (lv : List (Nat × Value)) (pc : Nat) (M : Mm), decode cL_law pc = .ok (.ireturn, 1) → Go x9 K 7 Q9 pc lv [.int 1] M) (M : Mm) (h : fL_law x9 k9 L9 xs9 M = some (1, M9)) : Go x9 K 7 Q9 0 [(0, .ref scr9)] [] M := by
  have hC := hE.1
  have hnm := hE.2.2.2.2.2.2.2.1
  unfold fL_law at h
  obtain ⟨h1, h⟩ := os_1 h
  refine go_new (κ := 5) (C := RX4) (T := TX4) (N := 7) hE rfl rfl inlX4 tyX4 tyX4_ok m_0 m_1 m_2 df_5 h1.1 h1.2 dL_law_0 ?_
  refine go_dup hC dL_law_3 rfl ?_
  obtain ⟨r2, M3, h4, h⟩ := os_c h
  refine go_callI (bytes := cX4_init) (maxL := 2) (n := 0) (As := []) (st := [.ref (mX M)]) hE (c_X4_init K.2.1 h4) (by unfold okY; decide +kernel) rfl (b := (mX M)) m_9 m_7 m_8 rfl m_2 rfl (by simp [Value.category]) (by decide) (by decide) dL_law_4 ?_
  refine go_eq (pc' := 7) (st' := [.ref (mX M)]) (M' := M3) (lv' := [(0, .ref scr9)]) ?_ rfl rfl rfl rfl
  refine go_astore_n (lv' := [(1, .ref (mX M)), (0, .ref scr9)]) hC dL_law_7 rfl (by decide) rfl ?_
  obtain ⟨h6, h⟩ := os_1 h
  refine go_new (κ := 6) (C := RX5) (T := TX5) (N := 28) hE rfl rfl inlX5 tyX5 tyX5_ok m_3 m_4 m_5 df_6 h6.1 h6.2 dL_law_8 ?_
  refine go_dup hC dL_law_11 rfl ?_
  obtain ⟨r7, M8, h9, h⟩ := os_c h
  refine go_callI (bytes := cX5_init) (maxL := 1) (n := 0) (As := []) (st := [.ref (mX M3)]) hE (c_X5_init K.2.1 h9) (by unfold okY; decide +kernel) rfl (b := (mX M3)) m_73 m_71 m_72 rfl m_5 rfl (by simp [Value.category]) (by decide) (by decide) dL_law_12 ?_
  refine go_eq (pc' := 15) (st' := [.ref (mX M3)]) (M' := M8) (lv' := [(1, .ref (mX M)), (0, .ref scr9)]) ?_ rfl rfl rfl rfl
  refine go_astore_n (lv' := [(2, .ref (mX M3)), (1, .ref (mX M)), (0, .ref scr9)]) hC dL_law_15 rfl (by decide) rfl ?_
  refine go_iconst hC dL_law_16 (v := (1 : Int32)) (by decide +kernel) ?_
  obtain ⟨h11, h⟩ := os_1 h
  refine go_newJ hE m_6 h11.1 h11.2.1 h11.2.2.1 h11.2.2.2 dL_law_17 ?_
  refine go_astore_n (lv' := [(3, .ref (mX M8)), (2, .ref (mX M3)), (1, .ref (mX M)), (0, .ref scr9)]) hC dL_law_19 rfl (by decide) rfl ?_
  refine go_iconst hC dL_law_20 (v := (0 : Int32)) (by decide +kernel) ?_
  refine go_istore (lv' := [(4, .int (0 : Int32)), (3, .ref (mX M8)), (2, .ref (mX M3)), (1, .ref (mX M)), (0, .ref scr9)]) hC dL_law_21 (by decide) rfl ?_
  refine go_sub (lv' := [(0, .ref scr9), (1, .ref (mX M)), (2, .ref (mX M3)), (3, .ref (mX M8)), (4, .int (0 : Int32))]) [4, 3, 2, 1, 0] rfl ?_
  exact tL_law_23 hE hl hS hfin k9 _ _ _ _ _ h
