/-! methods with an exception table (they catch), and the law's own rows -/
def FnH (l : Launch) (x : Cx) (y : MethodName) (cc : ByteArray) (nL : Nat) (ret : Option FieldType) (hh : List (Nat × Nat × Nat × Nat)) (fr lo : Nat) (av : List Value) (M : Mm) (rv : Option Value) (M' : Mm) : Prop :=
  Met l y (Cond.codeWith y cc nL ret hh :: wsL_law) (rmF x fr lo M) (va_Pc av (fun U => Hp x M U.heap ∧ Zs x U U.heap)) (Qr x rv M') (xC x - mX M) (xL x - mS M) (xA x)
def CeH (x : Cx) (K : Ct) (own : String) (cc : ByteArray) (nL : Nat) (ret : Option FieldType) (hh : List (Nat × Nat × Nat × Nat)) (fr lo : Nat) (nm : String) (M0 : Mm) : Prop := Ce x K own cc nL ret fr lo nm M0 ∧ K.2.2.2.2.2.2.2.2.2.exceptionTable.toList = tableOf hh ∧ K.2.1.stackTraces = false
theorem FnH.of {l : Launch} {x : Cx} {y : MethodName} {cc : ByteArray} {nL : Nat} {ret : Option FieldType} {hh : List (Nat × Nat × Nat × Nat)} {fr lo : Nat} {av : List Value} {M : Mm} {rv : Option Value} {M' : Mm} {lv : List (Nat × Value)} (hst : l.stackTraces = false) (hy : plainName y.cls = true) (hlen : (lg_sl av).length ≤ nL) (hlv : lv_args 0 av = lv)
    (h : ∀ K : Ct, K.2.1 = l → CeH x K y.cls cc nL ret hh fr lo y.name M → Go x K nL (Qf x K M rv M') 0 lv [] M) : FnH l x y cc nL ret hh fr lo av M rv M' := by
  unfold FnH Met
  refine MetFree.of_bodyS (code := cc) (maxLocals := nL) (ret := ret) hy ?_ ?_
  · intro args s m h hn
    obtain ⟨m9, meth, c, hn9, h1, h2, h3, h4, -, h5, h6, -⟩ := Cond.codeWith_spec (atoms_spec (ws := Cond.codeWith y cc nL ret hh :: wsL_law) h _ List.mem_cons_self)
    cases hn.symm.trans hn9
    exact ⟨meth, c, h1, h2, h3, h4, h5, h6⟩
  · intro p e s m args below meth c s₁ B hml hv _
    obtain ⟨rfl, hH, hZ⟩ := hv
    have hh0 : s₁.heap = s.heap := by rw [B.state]; rfl
    have hts0 := atoms_spec (ws := Cond.codeWith y cc nL ret hh :: wsL_law) B.pre
    have hts : ∀ w ∈ wsL_law, w.before av.toArray s = true := fun w hw => hts0 w (List.mem_cons_of_mem _ hw)
    have hCb : Cb (p, l, e, (headSpec (Cond.codeWith y cc nL ret hh :: wsL_law) (rmF x fr lo M)).room, s, m, av.toArray, below, meth, c) y.cls cc nL := ⟨B.exec, B.bytes, hml, findClass_of_methodNamed B.named, hts, B.notSynchronized⟩
    have hl := lv_entry av (n := nL) hlen
    have K : W p l e (headSpec (Cond.codeWith y cc nL ret hh :: wsL_law) (rmF x fr lo M)).room s m av.toArray below meth c s.heap [] 0 0 (MQ below (Qr x rv M') av.toArray s (xC x - mX M) (xL x - mS M) (xA x)) (entryFrame m av.toArray nL) := by
      rw [lg_entry_eq]
      generalize (lg_sl av ++ List.replicate (nL - (lg_sl av).length) Slot.unset).toArray = ls at hl ⊢
      rw [hlv] at hl
      exact h (p, l, e, (headSpec (Cond.codeWith y cc nL ret hh :: wsL_law) (rmF x fr lo M)).room, s, m, av.toArray, below, meth, c) rfl ⟨⟨hCb, B.returns, rfl, hH.2.1, hH.2.2.1, hH.2.2.2.1, hH.2.2.2.2.1, (name_of_methodNamed B.named B.method).1, hH.2.2.2.2.2⟩, vx_table (x := y) B (hts0 _ List.mem_cons_self), hst⟩ s.heap [] ls 0 0 hl ⟨hH, hZ, va_S.rf⟩
    obtain ⟨t, a1, o, b1, b2, b3⟩ := K s₁ hh0 (Stand.of_body B)
    exact ⟨t, o, a1, b1, b2, b3⟩
/-- a call that may throw, with what is done for either -/
def obH {α β : Type} (q : Option ((Nat ⊕ α) × Mm)) (g : α → Mm → Option β) (k : Nat → Mm → Option β) : Option β := match q with
  | none => none
  | some (.inl c, M) => k c M
  | some (.inr a, M) => g a M
theorem os_H {α β : Type} {q : Option ((Nat ⊕ α) × Mm)} {g : α → Mm → Option β} {k : Nat → Mm → Option β} {y : β} (h : obH q g k = some y) : (∃ a M, q = some (.inr a, M) ∧ g a M = some y) ∨ ∃ c M, q = some (.inl c, M) ∧ k c M = some y := by
  match q, h with
  | none, h => cases h
  | some (.inl c, M), h => exact Or.inr ⟨c, M, rfl, h⟩
  | some (.inr a, M), h => exact Or.inl ⟨a, M, rfl, h⟩
section Law9
variable {x : Cx} {K : Ct} {own : String} {cc : ByteArray} {nL pc fr lo : Nat} {ret0 : Option FieldType} {nm : String} {Q : State → Prop} {lv : List (Nat × Value)} {st st0 : List Value} {M M0 M1 : Mm}
variable {y : MethodName} {bytes : ByteArray} {maxL n index fr' lo' b c9 : Nat} {ret : Option FieldType} {As : List Value} {rv : Option Value} {hh : List (Nat × Nat × Nat × Nat)}
/-- a callee's throw, caught here at hpc -/
theorem go_callVH {C : String} {T : u_T} {N κ hpc : Nat} {pre suf : List ExceptionTableEntry} {en : ExceptionTableEntry} (hX : CeH x K own cc nL ret0 hh fr lo nm M0) (hF : FnX K.2.1 x y bytes maxL ret fr' lo' (.ref b :: As) M c9 M1) (hy : okY y n) (hn : As.length = n)
    (hk : mK M b = κ) (hO : isO κ = true) (hc : vwCl[oI κ]? = some (C, T, N)) (hcode : Cond.code y bytes maxL ret ∈ wsL_law) (hlink : Cond.methodLink own index y ∈ wsL_law) (hinst : Cond.instanceMethod y ∈ wsL_law) (hsel : Cond.selects C y y ∈ wsL_law) (hini : Cond.initialized y.cls ∈ wsL_law)
    (hst : st0 = As.reverse ++ .ref b :: st) (hcat : (st.map fun v => v.category).sum ≤ 8) (hfr : fr' + 1 ≤ fr) (hlo : 8 + (maxL + 11) + lo' ≤ lo) (d : decode cc pc = .ok (.invokevirtual index, 3))
    (hsplit : tableOf hh = pre ++ en :: suf) (hpass : ∀ z ∈ pre, covers z pc = true ∧ z.catchType ≠ 0 ∧ ∃ nm9 : String, Cond.classLink own z.catchType nm9 ∈ wsL_law ∧ ∀ s H, Zs x s H → va_Nc (exN c9) nm9 s) (hcov : covers en pc = true) (hct0 : en.catchType ≠ 0) (hcl : Cond.classLink own en.catchType (exN c9) ∈ wsL_law) (hcast : Cond.castable (exN c9) (exN c9) ∈ cst) (hhpc : en.handlerPc = hpc)
    (hB : mX M1 + 1 ≤ xC x ∧ mS M1 + 6 ≤ xL x) (k : ∀ q : Nat, Go x K nL Q hpc lv [.ref q] (sX M1 (mX M1 + 1) (mS M1 + 6))) : Go x K nL Q pc lv st0 M := by
  obtain ⟨p, l, e, R, s, m, args, below, meth, c⟩ := K
  obtain ⟨⟨⟨hx, hb, hml, hown, hts, hlk⟩, -, hR, h4, h5, h6, h7, -, hxB⟩, htab, -⟩ := hX
  intro H locs ls cells slots hl hw
  subst hst
  subst hhpc
  have hR' : R = rmF x fr lo M0 := hR
  have htab' : c.exceptionTable.toList = pre ++ en :: suf := by rw [← hsplit]; exact htab
  obtain ⟨r, hr1, cell, q1, q2, q3, -⟩ := (show va_at (xD x) vwCl (b, .inr (oI κ, mkO (oG M b) 0 (oS κ))) H by rw [← mC_o hk hO]; exact (hw.1.1 b (by rw [hk]; exact (isO_ne hO).1)).1)
  have hrc : r = (C, T, N) := Option.some.inj (hr1.symm.trans hc)
  subst hrc
  have hcls := (hw.2.1.1.1 (oI κ) _ hc).2.1
  refine W.tight (fun hsl => ?_)
  have hq := room_go (M := M) hR h4 h5 hw hsl
  have hrun := vx_runV (p := p) (l := l) (e := e) (R := R) (s := s) (m := m) (args := args) (below := below) (meth := meth) (c := c) (H := H) (locs := locs) (g := F0 m pc ls (As.reverse ++ .ref b :: st)) (As := As) (rest := st) (C := C) (n := n) (nL := nL) ⟨hx, hb, hml, hown, hts⟩ hF ⟨⟨rfl, rfl, by rw [hR']; exact hfr, by rw [hR']; exact hlo, pay9 hts hcode, List.mem_cons_self, hts _ hcode, hts _ hini, ⟨hy.1, hy.2.1⟩, okY_len hy, hts _ hlink⟩, hts _ hinst, hts _ hsel⟩ ⟨pcBlind, ⟨cell, q1, by rw [q3]; rfl, by rw [q2]; exact hcls⟩, fun U hU hW => ⟨rfl, by rw [hU]; exact hw.1, by rw [hU]; exact hw.2.1.warm hW⟩⟩ rfl hn hl.1 rfl (lv_room hcat) d hq
  intro T hT X
  rcases hrun T hT X with ⟨v, st₀, t, T', L, h0, X', hL, e1, e2, hq9, stp⟩ | ⟨q, st₀, t, T', L, E, ce, h0, X', hL, e1, e2, ⟨x1, x2, x3, x4, x6, x7⟩, hce, hcv, hcl9, stp⟩
  · exact hq9.elim
  · rw [h0] at x6 x7
    subst x1
    have hwo : Wo x (sX M1 (mX M1 + 1) (mS M1 + 6)) s T'.heap (locs ++ L) := by
      refine ⟨⟨fun a ha => ?_, by rw [e1]; exact x3, by rw [e1]; exact x4, hB.1, hB.2, ?_⟩, hw.2.1.kept (fun q9 h1 h2 => by rw [e1]; exact x7 q9 h1 h2), Nat.le_trans hw.2.2.1 (by rw [e1]; exact x6), fun q9 h1 h2 => ?_, fun z hz => ?_⟩
      · rw [e1]; exact x2 a ha
      · show xB x ≤ mX M1 + 1
        have hz9 : xB x ≤ mX M := hw.1.2.2.2.2.2
        have hz8 : H.size = mX M := hw.1.2.1
        rw [x3] at x6
        omega
      · rw [e1, x7 q9 (Nat.lt_of_lt_of_le h1 hw.2.2.1) h2]
        exact hw.2.2.2.1 q9 h1 h2
      · rcases List.mem_append.mp hz with h | h
        · exact hw.2.2.2.2 z h
        · exact hL z h
    have kk := fun cells1 slots1 => k q T'.heap (locs ++ L) ls cells1 slots1 hl hwo
    obtain ⟨t2, a1, b1⟩ := zc_catch (pc := pc) (rest := st) (ls := ls) (E := exN c9) (name := exN c9) (ce := ce) (q := q) hown pre en suf htab' (fun z hz => by
      obtain ⟨z1, z2, nm9, z3, z4⟩ := hpass z hz
      exact ⟨z1, z2, nm9, hts _ z3, z4 _ _ hw.2.1⟩) hcov hct0 (hts _ hcl) (va_Nw.use rfl (hw.2.1.2.2.2.2.2.2.2.2.2.2.2.2.2 _ hcast)) (by rw [e1]; exact hce) hcv hcl9 (kk _ _) T' rfl X'
    exact ⟨t2, stp.trans a1, b1⟩
/-- a call of a method that catches -/
theorem go_callSH (hE : Ce x K own cc nL ret0 fr lo nm M0) (hF : FnH K.2.1 x y bytes maxL ret hh fr' lo' As M rv M1) (hy : okY y n) (hn : As.length = n)
    (hcode : Cond.codeWith y bytes maxL ret hh ∈ wsL_law) (hlink : Cond.methodLink own index y ∈ wsL_law) (hstat : Cond.static y ∈ wsL_law) (hini : Cond.initialized y.cls ∈ wsL_law)
    (hst : st0 = As.reverse ++ st) (hcat : (st.map fun v => v.category).sum ≤ 8) (hfr : fr' + 1 ≤ fr) (hlo : 8 + (maxL + 11) + lo' ≤ lo) (d : decode cc pc = .ok (.invokestatic index, 3)) (k : Go x K nL Q (pc + 3) lv (rv.toList ++ st) M1) : Go x K nL Q pc lv st0 M := by
  obtain ⟨p, l, e, R, s, m, args, below, meth, c⟩ := K
  obtain ⟨⟨hx, hb, hml, hown, hts, hlk⟩, -, hR, h4, h5, h6, h7, -⟩ := hE
  intro H locs ls cells slots hl hw
  subst hst
  have hR' : R = rmF x fr lo M0 := hR
  exact W.tight (fun hsl => run_go (vx_runSW (As := As) (rest := st) (n := n) (nL := nL) (hh := hh) ⟨hx, hb, hml, hown, hts⟩ hF ⟨⟨rfl, rfl, by rw [hR']; exact hfr, by rw [hR']; exact hlo, pay9 hts hcode, List.mem_cons_self⟩, hts _ hcode, hts _ hini, ⟨hy.1, hy.2.1⟩, okY_len hy, hts _ hlink, hts _ hstat⟩ ⟨pcBlind, fun U hU hW => ⟨rfl, by rw [hU]; exact hw.1, by rw [hU]; exact hw.2.1.warm hW⟩⟩ rfl hn hl.1 rfl (lv_room hcat) d (room_go hR h4 h5 hw hsl)) hw (fun H1 locs1 cells1 slots1 hw1 => k H1 locs1 ls cells1 slots1 hl hw1))
/-- the law's script -/
def Sc (x : Cx) (K : Ct) (b L : Nat) (xs : Nat → Int32) : Prop := va_X b L xs K.2.2.2.2.1 K.2.2.2.2.1.heap ∧ b < K.2.2.2.2.1.heap.size ∧ ¬ xA x b
theorem go_slen {b L : Nat} {xs : Nat → Int32} (hC : Cb K own cc nL) (hS : Sc x K b L xs) (d : decode cc pc = .ok (.arraylength, 1)) (k : Go x K nL Q (pc + 1) lv (.int (nI L) :: st) M) : Go x K nL Q pc lv (.ref b :: st) M := by
  obtain ⟨p, l, e, R, s, m, args, below, meth, c⟩ := K
  obtain ⟨hx, hb, hml, hown, hts, hlk9⟩ := hC
  intro H locs ls cells slots hl hw
  exact va_slen hx hb hS.1 hS.2.1 hS.2.2 hw.2.2 d (k H locs ls cells slots hl hw)
theorem go_sld {b L : Nat} {xs : Nat → Int32} {i : Int32} (hC : Cb K own cc nL) (hS : Sc x K b L xs) (hin : ¬ (i < 0 ∨ L ≤ i.toNatClampNeg)) (d : decode cc pc = .ok (.iaload, 1)) (k : Go x K nL Q (pc + 1) lv (.int (xs i.toNatClampNeg) :: st) M) : Go x K nL Q pc lv (.int i :: .ref b :: st) M := by
  obtain ⟨p, l, e, R, s, m, args, below, meth, c⟩ := K
  obtain ⟨hx, hb, hml, hown, hts, hlk9⟩ := hC
  intro H locs ls cells slots hl hw
  exact va_sld hx hb hS.1 hS.2.1 hS.2.2 hw.2.2 hin d (k H locs ls cells slots hl hw)
end Law9
