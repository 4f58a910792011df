/-! THROWS: 'throw new E("text")' that leaves the method; a callee's throw that goes on -/
theorem vx_throwS9 {p : Program} {l : Launch} {e : Env} {R : Room} {s : State} {m : MethodId} {args : Array Value} {below : List Frame} {meth : Method} {c : Code} {H : Heap} {locs : List Loc} {cells slots : Nat} {free : Addr → Prop} {ls : Array Slot} {rest : List Value} {Qc : Array Value → State → Outcome → State → Prop} {XC : String → State → State → Prop} {cc : ByteArray} {pc : Nat} (hexec : p.tables.exec = Jvm.exec) (hb : c.code = cc) (hl : l.stackTraces = false) {own cls text : String} {names : List String} {ik is ic mc ms sa : Nat} {A : Nat → Prop}
    (hown : s.vm.findClass own = some m.cls) (hcls : Bundle.fit cls = true) (hnames : ∀ n ∈ names, Bundle.fit n = true)
    (hk : (Cond.classLink own ik cls).before args s = true) (hini : (Cond.initialized cls).before args s = true) (hstr : vk_R own is text sa s) (hat : ∀ w ∈ vx_atS own ic cls names, w.before args s = true)
    (hgood : ∀ w ∈ Cond.classLink own ik cls :: Cond.initialized cls :: vx_atS own ic cls names, vx_ot w = true)
    (hU : vx_Zq Bundle.tN "UNASSIGNED_STACK" Bundle.steD A s s.heap) (hN : vx_Zq Bundle.tN "SUPPRESSED_SENTINEL" Bundle.listD A s s.heap) (hS : va_S A s.heap H locs) (hsize : ls.size = c.maxLocals)
    (d0 : decode cc pc = .ok (.new ik, 3)) (d3 : decode cc (pc + 3) = .ok (.dup, 1)) (d4 : decode cc (pc + 4) = .ok (.ldc is, 2)) (d6 : decode cc (pc + 6) = .ok (.invokespecial ic, 3)) (d9 : decode cc (pc + 9) = .ok (.athrow, 1))
    (hout : ∀ x ∈ c.exceptionTable.toList, covers x (pc + 9) = false)
    (hRframes : names.length + 3 < R.frames) (hRlocals : (rest.map fun v => v.category).sum + (13 * (names.length + 1) + 43) ≤ R.locals) (hRcells : cells + 1 ≤ R.cells) (hRslots : slots + 6 ≤ R.slots) (hlocks : meth.locks = false)
    (hx : ∀ t : State, s.vm.Alike t.vm → H.size ≤ t.heap.size → (∀ q : Nat, q < H.size → t.heap[q]? = H[q]?) → t.heap.size = H.size + 1 → hs t.heap = hs H + 6 → XC cls s t)
    (hf : ∀ z ∈ locs, free z.base) (hc : cells + 1 ≤ mc) (hsm : slots + 6 ≤ ms) :
    W p l e R s m args below meth c H locs cells slots (vx_MQ below Qc XC args s mc ms free) (F0 m pc ls rest) := by
  intro T hT X
  have htr : e.platform.stackTraces = false := (show e.platform.stackTraces = l.stackTraces by rw [X.admits.platform]).trans hl
  have Y := vx_rebase X (R' := { frames := R.frames, locals := R.locals, cells := 1, slots := 6 }) (Nat.le_refl _) (Nat.le_refl _) hRcells hRslots
  obtain ⟨s', hA⟩ : ∃ z, z = (T.setVm s.vm).setFrames (.invoking m args :: below) := ⟨_, rfl⟩
  rw [← hA] at Y
  have hvm : s'.vm = s.vm := by rw [hA]; rfl
  have hhp : s'.heap = H := by rw [hA]; exact hT
  have hW0 : s.WarmedH s'.vm := by rw [hvm]; exact State.WarmedH.refl s
  have hat' : ∀ w ∈ vx_atS own ic cls names, w.before args s' = true := fun w hw => vx_ot_at hW0 hvm.symm (hgood w (List.mem_cons_of_mem _ (List.mem_cons_of_mem _ hw))) (hat w hw)
  have hk' : (Cond.classLink own ik cls).before args s' = true := vx_ot_at hW0 hvm.symm (hgood _ List.mem_cons_self) hk
  have hini' : (Cond.initialized cls).before args s' = true := vx_ot_at hW0 hvm.symm (hgood _ (List.mem_cons_of_mem _ List.mem_cons_self)) hini
  have hU' : vx_Zq Bundle.tN "UNASSIGNED_STACK" Bundle.steD A s' s'.heap := by rw [hhp]; exact vx_Zq.moved hW0.alike (hU.kept hS.2.1)
  have hN' : vx_Zq Bundle.tN "SUPPRESSED_SENTINEL" Bundle.listD A s' s'.heap := by rw [hhp]; exact vx_Zq.moved hW0.alike (hN.kept hS.2.1)
  have h : ∀ w ∈ Bundle.ownAtoms own ic cls names, w.before args s' = true := vx_own hat' (vx_isRefq hU'.1) (vx_isRefq hN'.1) hU'.2.word hN'.2.word
  have hown' : s'.vm.findClass own = some m.cls := by rw [hvm]; exact hown
  have hins : (Cond.instantiable cls 6).before args s' = true := h _ (by simp [Bundle.ownAtoms])
  obtain ⟨vm₁, cX, kX, hfX, hkX, -, -, X₁, st1⟩ := Y.newCold hexec (own := own) (C := cls) (index := ik) (n := 6) hown' hk' hins hini'
    (g := F0 m pc ls rest) rfl (by rw [hb]; exact d0) (Nat.le_refl _) (Nat.le_refl _)
  generalize hT1 : (T.setVm vm₁).pushCell { cls := cX, slots := kX.instanceTypes.map defaultValue, vm := .none } = T1 at X₁ st1
  have hcat : (Value.ref T.heap.size).category = 1 := rfl
  have hcellA : T1.heap[T.heap.size]? = some (freshCell cX kX) := by rw [← hT1]; exact State.heap_pushCell_size _ _
  have d3' : decode c.code (pc + 3) = .ok (.dup, 1) := by rw [hb]; exact d3
  have d4' : decode c.code (pc + 4) = .ok (.ldc is, 2) := by rw [hb]; exact d4
  have hstr' : vk_R own is text sa s' := vk_R.warm hW0 hstr
  obtain ⟨U, hsteps, hrun, hend, hW, hsame, ce, hce, hO⟩ := X₁.ctorThrowS hexec htr (own := own) (cls := cls) (names := names) (ic := ic) hown' hcls hnames h (fun x hx => nomatch hx) hfX hkX hcellA (by rw [hhp, hT]; exact Nat.le_refl _) (msg := .ref sa) rfl
    (g := { method := m, pc := pc + 6, locals := ls, stack := .ref sa :: .ref T.heap.size :: .ref T.heap.size :: rest, locked := none }) rfl hsize rfl rfl (rest := rest) rfl
    (by rw [hb]; exact d6) (by rw [hb]; exact d9) hout hRframes (by simp only [List.map_cons, List.sum_cons, hcat]; omega) hlocks
  obtain ⟨f1, f2⟩ := vx_frame hsame
  rw [hhp] at f1 f2
  have hWs : s.WarmedH U.vm := State.WarmedH.trans hW0 hW
  have hcl : s.vm.findClass cls = some ce.cls := by
    have h9 := hO.cls
    rw [hvm] at h9
    exact h9
  have h2 : (T.setVm s.vm).sameButNew ({ U with vm := s.vm } : State) [] (0 + 1) (0 + 6) := by
    subst hA
    obtain ⟨e1, e2⟩ := hsame
    rw [State.setFrames_setFrames] at e1
    exact ⟨e1, e2⟩
  have hup : U.heap.size = H.size + 1 ∧ hs U.heap = hs H + 6 := by
    have hd := hs_drop h2
    obtain ⟨-, -, g3, -, g5, -⟩ := h2
    have g3' : U.heap.size ≤ T.heap.size + 1 := by simpa using g3
    have hd' : ((U.heap.toList.drop T.heap.size).map (·.slots.size)).sum + hs T.heap = hs U.heap := hd
    have hlt : T.heap.size < U.heap.size := (Array.getElem?_eq_some_iff.mp hce).1
    have e9 : U.heap.toList.drop T.heap.size = [ce] := by
      apply List.ext_getElem?
      intro i
      rw [List.getElem?_drop, Array.getElem?_toList]
      cases i with
      | zero => simpa using hce
      | succ i => rw [Array.getElem?_eq_none (by omega)]; rfl
    rw [e9] at hd'
    have h6 : ce.slots.size = 6 := hO.size
    simp [h6] at hd'
    rw [hT] at g3' hlt hd'
    exact ⟨by omega, by omega⟩
  have hall : s.sameButNew ({ U with vm := s.vm } : State) locs mc ms := by
    have h3 := X.same.trans h2
    rw [List.append_nil] at h3
    exact h3.mono hc hsm
  refine ⟨U, ?_, .threw T.heap.size, hrun, hend, Or.inr ⟨T.heap.size, rfl, cls, ce, locs, hx U hWs.alike f1 (fun q hq => f2 q hq (fun z hz => nomatch hz)) hup.1 hup.2, hce, hO.vm, hcl, hWs, hall, hf⟩⟩
  refine st1 _ ?_
  show Steps p.tables e below (T1.setTop { method := m, pc := pc + 3, locals := ls, stack := .ref T.heap.size :: rest, locked := none }) _
  jvm_step X₁.here [X₁.here.top, hexec, d3', Value.category]
  exact X₁.ldcString hexec (own := own) (text := text) (index := is) (a := sa) hown' hstr'.1 hstr'.2
    (g := { method := m, pc := pc + 4, locals := ls, stack := .ref T.heap.size :: .ref T.heap.size :: rest, locked := none }) rfl d4' _ hsteps

theorem vx_throwSW9 {p : Program} {l : Launch} {e : Env} {R : Room} {s : State} {m : MethodId} {args : Array Value} {below : List Frame} {meth : Method} {c : Code} {H : Heap} {locs : List Loc} {cells slots : Nat} {free : Addr → Prop} {ls : Array Slot} {rest : List Value} {Qc : Array Value → State → Outcome → State → Prop} {XC : String → State → State → Prop} {cc : ByteArray} {pc : Nat} (hexec : p.tables.exec = Jvm.exec) (hb : c.code = cc) (hl : l.stackTraces = false) {own cls text : String} {names : List String} {ik is ic mc ms sa : Nat} {A : Nat → Prop}
    (hown : s.vm.findClass own = some m.cls) (hcls : Bundle.fit cls = true) (hnames : ∀ n ∈ names, Bundle.fit n = true)
    (hk : (Cond.classLink own ik cls).before args s = true) (hini : (Cond.initialized cls).before args s = true) (hstr : vk_R own is text sa s) (hat : ∀ w ∈ vx_atS own ic cls names, w.before args s = true)
    (hgood : ∀ w ∈ Cond.classLink own ik cls :: Cond.initialized cls :: vx_atS own ic cls names, vx_ot w = true)
    (hU : vx_Zq Bundle.tN "UNASSIGNED_STACK" Bundle.steD A s s.heap) (hN : vx_Zq Bundle.tN "SUPPRESSED_SENTINEL" Bundle.listD A s s.heap) (hS : va_S A s.heap H locs) (hsize : ls.size = c.maxLocals)
    (d0 : decode cc pc = .ok (.new ik, 3)) (d3 : decode cc (pc + 3) = .ok (.dup, 1)) (d4 : decode cc (pc + 4) = .ok (.ldc_w is, 3)) (d7 : decode cc (pc + 7) = .ok (.invokespecial ic, 3)) (d10 : decode cc (pc + 10) = .ok (.athrow, 1))
    (hout : ∀ x ∈ c.exceptionTable.toList, covers x (pc + 10) = false)
    (hRframes : names.length + 3 < R.frames) (hRlocals : (rest.map fun v => v.category).sum + (13 * (names.length + 1) + 43) ≤ R.locals) (hRcells : cells + 1 ≤ R.cells) (hRslots : slots + 6 ≤ R.slots) (hlocks : meth.locks = false)
    (hx : ∀ t : State, s.vm.Alike t.vm → H.size ≤ t.heap.size → (∀ q : Nat, q < H.size → t.heap[q]? = H[q]?) → t.heap.size = H.size + 1 → hs t.heap = hs H + 6 → XC cls s t)
    (hf : ∀ z ∈ locs, free z.base) (hc : cells + 1 ≤ mc) (hsm : slots + 6 ≤ ms) :
    W p l e R s m args below meth c H locs cells slots (vx_MQ below Qc XC args s mc ms free) (F0 m pc ls rest) := by
  intro T hT X
  have htr : e.platform.stackTraces = false := (show e.platform.stackTraces = l.stackTraces by rw [X.admits.platform]).trans hl
  have Y := vx_rebase X (R' := { frames := R.frames, locals := R.locals, cells := 1, slots := 6 }) (Nat.le_refl _) (Nat.le_refl _) hRcells hRslots
  obtain ⟨s', hA⟩ : ∃ z, z = (T.setVm s.vm).setFrames (.invoking m args :: below) := ⟨_, rfl⟩
  rw [← hA] at Y
  have hvm : s'.vm = s.vm := by rw [hA]; rfl
  have hhp : s'.heap = H := by rw [hA]; exact hT
  have hW0 : s.WarmedH s'.vm := by rw [hvm]; exact State.WarmedH.refl s
  have hat' : ∀ w ∈ vx_atS own ic cls names, w.before args s' = true := fun w hw => vx_ot_at hW0 hvm.symm (hgood w (List.mem_cons_of_mem _ (List.mem_cons_of_mem _ hw))) (hat w hw)
  have hk' : (Cond.classLink own ik cls).before args s' = true := vx_ot_at hW0 hvm.symm (hgood _ List.mem_cons_self) hk
  have hini' : (Cond.initialized cls).before args s' = true := vx_ot_at hW0 hvm.symm (hgood _ (List.mem_cons_of_mem _ List.mem_cons_self)) hini
  have hU' : vx_Zq Bundle.tN "UNASSIGNED_STACK" Bundle.steD A s' s'.heap := by rw [hhp]; exact vx_Zq.moved hW0.alike (hU.kept hS.2.1)
  have hN' : vx_Zq Bundle.tN "SUPPRESSED_SENTINEL" Bundle.listD A s' s'.heap := by rw [hhp]; exact vx_Zq.moved hW0.alike (hN.kept hS.2.1)
  have h : ∀ w ∈ Bundle.ownAtoms own ic cls names, w.before args s' = true := vx_own hat' (vx_isRefq hU'.1) (vx_isRefq hN'.1) hU'.2.word hN'.2.word
  have hown' : s'.vm.findClass own = some m.cls := by rw [hvm]; exact hown
  have hins : (Cond.instantiable cls 6).before args s' = true := h _ (by simp [Bundle.ownAtoms])
  obtain ⟨vm₁, cX, kX, hfX, hkX, -, -, X₁, st1⟩ := Y.newCold hexec (own := own) (C := cls) (index := ik) (n := 6) hown' hk' hins hini'
    (g := F0 m pc ls rest) rfl (by rw [hb]; exact d0) (Nat.le_refl _) (Nat.le_refl _)
  generalize hT1 : (T.setVm vm₁).pushCell { cls := cX, slots := kX.instanceTypes.map defaultValue, vm := .none } = T1 at X₁ st1
  have hcat : (Value.ref T.heap.size).category = 1 := rfl
  have hcellA : T1.heap[T.heap.size]? = some (freshCell cX kX) := by rw [← hT1]; exact State.heap_pushCell_size _ _
  have d3' : decode c.code (pc + 3) = .ok (.dup, 1) := by rw [hb]; exact d3
  have d4' : decode c.code (pc + 4) = .ok (.ldc_w is, 3) := by rw [hb]; exact d4
  have hstr' : vk_R own is text sa s' := vk_R.warm hW0 hstr
  obtain ⟨U, hsteps, hrun, hend, hW, hsame, ce, hce, hO⟩ := X₁.ctorThrowS hexec htr (own := own) (cls := cls) (names := names) (ic := ic) hown' hcls hnames h (fun x hx => nomatch hx) hfX hkX hcellA (by rw [hhp, hT]; exact Nat.le_refl _) (msg := .ref sa) rfl
    (g := { method := m, pc := pc + 7, locals := ls, stack := .ref sa :: .ref T.heap.size :: .ref T.heap.size :: rest, locked := none }) rfl hsize rfl rfl (rest := rest) rfl
    (by rw [hb]; exact d7) (by rw [hb]; exact d10) hout hRframes (by simp only [List.map_cons, List.sum_cons, hcat]; omega) hlocks
  obtain ⟨f1, f2⟩ := vx_frame hsame
  rw [hhp] at f1 f2
  have hWs : s.WarmedH U.vm := State.WarmedH.trans hW0 hW
  have hcl : s.vm.findClass cls = some ce.cls := by
    have h9 := hO.cls
    rw [hvm] at h9
    exact h9
  have h2 : (T.setVm s.vm).sameButNew ({ U with vm := s.vm } : State) [] (0 + 1) (0 + 6) := by
    subst hA
    obtain ⟨e1, e2⟩ := hsame
    rw [State.setFrames_setFrames] at e1
    exact ⟨e1, e2⟩
  have hup : U.heap.size = H.size + 1 ∧ hs U.heap = hs H + 6 := by
    have hd := hs_drop h2
    obtain ⟨-, -, g3, -, g5, -⟩ := h2
    have g3' : U.heap.size ≤ T.heap.size + 1 := by simpa using g3
    have hd' : ((U.heap.toList.drop T.heap.size).map (·.slots.size)).sum + hs T.heap = hs U.heap := hd
    have hlt : T.heap.size < U.heap.size := (Array.getElem?_eq_some_iff.mp hce).1
    have e9 : U.heap.toList.drop T.heap.size = [ce] := by
      apply List.ext_getElem?
      intro i
      rw [List.getElem?_drop, Array.getElem?_toList]
      cases i with
      | zero => simpa using hce
      | succ i => rw [Array.getElem?_eq_none (by omega)]; rfl
    rw [e9] at hd'
    have h6 : ce.slots.size = 6 := hO.size
    simp [h6] at hd'
    rw [hT] at g3' hlt hd'
    exact ⟨by omega, by omega⟩
  have hall : s.sameButNew ({ U with vm := s.vm } : State) locs mc ms := by
    have h3 := X.same.trans h2
    rw [List.append_nil] at h3
    exact h3.mono hc hsm
  refine ⟨U, ?_, .threw T.heap.size, hrun, hend, Or.inr ⟨T.heap.size, rfl, cls, ce, locs, hx U hWs.alike f1 (fun q hq => f2 q hq (fun z hz => nomatch hz)) hup.1 hup.2, hce, hO.vm, hcl, hWs, hall, hf⟩⟩
  refine st1 _ ?_
  show Steps p.tables e below (T1.setTop { method := m, pc := pc + 3, locals := ls, stack := .ref T.heap.size :: rest, locked := none }) _
  jvm_step X₁.here [X₁.here.top, hexec, d3', Value.category]
  exact X₁.ldcStringW hexec (own := own) (text := text) (index := is) (a := sa) hown' hstr'.1 hstr'.2
    (g := { method := m, pc := pc + 4, locals := ls, stack := .ref T.heap.size :: .ref T.heap.size :: rest, locked := none }) rfl d4' _ hsteps

def exN : Nat → String
  | 1 => "java/lang/IllegalArgumentException"
  | _ => "java/lang/IllegalStateException"
/-- thrown: the class of the code c; the cells are those of M, and one cell of six slots more -/
def XC9 (x : Cx) (c : Nat) (M : Mm) : String → State → State → Prop := fun E st t => E = exN c ∧ (∀ a, mK M a ≠ 0 → va_at (xD x) vwCl (a, mC x M a) t.heap ∧ (mK M a ≠ 13 → xB x ≤ a)) ∧ t.heap.size = mX M + 1 ∧ hs t.heap = mS M + 6 ∧ va_F (xA x) st t
def QN : Array Value → State → Outcome → State → Prop := fun _ _ _ _ => False
def FnX (l : Launch) (x : Cx) (y : MethodName) (cc : ByteArray) (nL : Nat) (ret : Option FieldType) (fr lo : Nat) (av : List Value) (M : Mm) (c : Nat) (M' : Mm) : Prop :=
  vx_Met l y (Cond.code y cc nL ret :: wsL_law) (rmF x fr lo M) (va_Pc av (fun U => Hp x M U.heap ∧ Zs x U U.heap)) QN (XC9 x c M') (xC x - mX M) (xL x - mS M) (xA x)
def CeX (x : Cx) (K : Ct) (own : String) (cc : ByteArray) (nL : Nat) (ret : Option FieldType) (fr lo : Nat) (nm : String) (M0 : Mm) : Prop := Ce x K own cc nL ret fr lo nm M0 ∧ (∀ z ∈ K.2.2.2.2.2.2.2.2.2.exceptionTable.toList, False) ∧ K.2.1.stackTraces = false
def QX (x : Cx) (K : Ct) (M0 : Mm) (c : Nat) (M' : Mm) : State → Prop := vx_MQ K.2.2.2.2.2.2.2.1 QN (XC9 x c M') K.2.2.2.2.2.2.1 K.2.2.2.2.1 (xC x - mX M0) (xL x - mS M0) (xA x)
theorem FnX.of {l : Launch} {x : Cx} {y : MethodName} {cc : ByteArray} {nL : Nat} {ret : Option FieldType} {fr lo : Nat} {av : List Value} {M : Mm} {c9 : Nat} {M' : Mm} {lv : List (Nat × Value)} (hst : l.stackTraces = false) (hy : plainName y.cls = true) (hlen : (lg_sl av).length ≤ nL) (hlv : lv_args 0 av = lv)
    (h : ∀ K : Ct, K.2.1 = l → CeX x K y.cls cc nL ret fr lo y.name M → Go x K nL (QX x K M c9 M') 0 lv [] M) : FnX l x y cc nL ret fr lo av M c9 M' := by
  refine vx_ofW (cc := cc) (maxL := nL) (ret := ret) hy rfl ?_
  intro p e s m args below meth c s₁ B hml hno hv
  obtain ⟨rfl, hH, hZ⟩ := hv
  have hts0 := atoms_spec (ws := Cond.code y cc nL ret :: wsL_law) B.pre
  have hts : ∀ w ∈ wsL_law, w.before av.toArray s = true := fun w hw => hts0 w (List.mem_cons_of_mem _ hw)
  have hCb : Cb (p, l, e, (headSpec (Cond.code y cc nL ret :: wsL_law) (rmF x fr lo M)).room, s, m, av.toArray, below, meth, c) y.cls cc nL := ⟨B.exec, B.bytes, hml, findClass_of_methodNamed B.named, hts, B.notSynchronized⟩
  have hl := lv_entry av (n := nL) hlen
  rw [lg_entry_eq]
  generalize (lg_sl av ++ List.replicate (nL - (lg_sl av).length) Slot.unset).toArray = ls at hl ⊢
  rw [hlv] at hl
  exact h (p, l, e, (headSpec (Cond.code y cc nL ret :: wsL_law) (rmF x fr lo M)).room, s, m, av.toArray, below, meth, c) rfl ⟨⟨hCb, B.returns, rfl, hH.2.1, hH.2.2.1, hH.2.2.2.1, hH.2.2.2.2.1, (name_of_methodNamed B.named B.method).1, hH.2.2.2.2.2⟩, hno, hst⟩ s.heap [] ls 0 0 hl ⟨hH, hZ, va_S.rf⟩
/-- a call that may throw -/
def obT {α β : Type} (q : Option ((Nat ⊕ α) × Mm)) (g : α → Mm → Option ((Nat ⊕ β) × Mm)) : Option ((Nat ⊕ β) × Mm) := match q with
  | none => none
  | some (.inl c, M) => some (.inl c, M)
  | some (.inr a, M) => g a M
theorem os_TR {α β : Type} {q : Option ((Nat ⊕ α) × Mm)} {g : α → Mm → Option ((Nat ⊕ β) × Mm)} {y : β} {M9 : Mm} (h : obT q g = some (.inr y, M9)) : ∃ a M, q = some (.inr a, M) ∧ g a M = some (.inr y, M9) := by
  match q, h with
  | none, h => cases h
  | some (.inl c, M), h => simp [obT] at h
  | some (.inr a, M), h => exact ⟨a, M, rfl, h⟩
theorem os_TX {α β : Type} {q : Option ((Nat ⊕ α) × Mm)} {g : α → Mm → Option ((Nat ⊕ β) × Mm)} {c : Nat} {M9 : Mm} (h : obT q g = some (.inl c, M9)) : q = some (.inl c, M9) ∨ ∃ a M, q = some (.inr a, M) ∧ g a M = some (.inl c, M9) := by
  match q, h with
  | none, h => cases h
  | some (.inl c', M), h =>
    simp only [obT, Option.some.injEq, Prod.mk.injEq, Sum.inl.injEq] at h
    obtain ⟨rfl, rfl⟩ := h
    exact Or.inl rfl
  | some (.inr a, M), h => exact Or.inr ⟨a, M, rfl, h⟩
set_option maxRecDepth 20000 in
theorem xw1 : ∀ w ∈ (vx_atS RX4 232 "java/lang/IllegalArgumentException" ["java/lang/RuntimeException", "java/lang/Exception"]).filter (fun w => !goodWord w), w ∈ ([.castable "java/lang/IllegalArgumentException" "java/lang/IllegalArgumentException", .declares (Bundle.initS "java/lang/RuntimeException"), .declares (Bundle.initS "java/lang/Exception"), .declares (Bundle.initS Bundle.tN)] : List Cond) := by decide +kernel
set_option maxRecDepth 20000 in
theorem xw2 : ∀ w ∈ (vx_atS RX4 260 "java/lang/IllegalStateException" ["java/lang/RuntimeException", "java/lang/Exception"]).filter (fun w => !goodWord w), w ∈ ([.castable "java/lang/IllegalStateException" "java/lang/IllegalStateException", .declares (Bundle.initS "java/lang/RuntimeException"), .declares (Bundle.initS "java/lang/Exception"), .declares (Bundle.initS Bundle.tN)] : List Cond) := by decide +kernel
set_option maxRecDepth 20000 in
theorem xg1 : ∀ w ∈ Cond.classLink RX4 228 "java/lang/IllegalArgumentException" :: Cond.initialized "java/lang/IllegalArgumentException" :: vx_atS RX4 232 "java/lang/IllegalArgumentException" ["java/lang/RuntimeException", "java/lang/Exception"], vx_ot w = true := by decide +kernel
set_option maxRecDepth 20000 in
theorem xg2 : ∀ w ∈ Cond.classLink RX4 256 "java/lang/IllegalStateException" :: Cond.initialized "java/lang/IllegalStateException" :: vx_atS RX4 260 "java/lang/IllegalStateException" ["java/lang/RuntimeException", "java/lang/Exception"], vx_ot w = true := by decide +kernel
theorem xa1 {s : State} {args : Array Value} {x : Cx} {H : Heap} (hts : ∀ w ∈ wsL_law, w.before args s = true) (hZ : Zs x s H) : ∀ w ∈ vx_atS RX4 232 "java/lang/IllegalArgumentException" ["java/lang/RuntimeException", "java/lang/Exception"], w.before args s = true :=
  vx_hat (fun w h => hts w (List.mem_append_left _ (List.mem_append_right _ h))) xw1 (vx_c (va_Nw.use rfl (hZ.2.2.2.2.2.2.2.2.2.2.2.2.2 _ (by simp [cst]))) (vx_c (va_Nw.use rfl (hZ.2.2.2.2.2.2.2.2.2.2.2.2.2 _ (by simp [cst]))) (vx_c (va_Nw.use rfl (hZ.2.2.2.2.2.2.2.2.2.2.2.2.2 _ (by simp [cst]))) (vx_c (va_Nw.use rfl (hZ.2.2.2.2.2.2.2.2.2.2.2.2.2 _ (by simp [cst]))) vx_n))))
theorem xa2 {s : State} {args : Array Value} {x : Cx} {H : Heap} (hts : ∀ w ∈ wsL_law, w.before args s = true) (hZ : Zs x s H) : ∀ w ∈ vx_atS RX4 260 "java/lang/IllegalStateException" ["java/lang/RuntimeException", "java/lang/Exception"], w.before args s = true :=
  vx_hat (fun w h => hts w (List.mem_append_right _ h)) xw2 (vx_c (va_Nw.use rfl (hZ.2.2.2.2.2.2.2.2.2.2.2.2.2 _ (by simp [cst]))) (vx_c (va_Nw.use rfl (hZ.2.2.2.2.2.2.2.2.2.2.2.2.2 _ (by simp [cst]))) (vx_c (va_Nw.use rfl (hZ.2.2.2.2.2.2.2.2.2.2.2.2.2 _ (by simp [cst]))) (vx_c (va_Nw.use rfl (hZ.2.2.2.2.2.2.2.2.2.2.2.2.2 _ (by simp [cst]))) vx_n))))
section Throws9
variable {x : Cx} {K : Ct} {own : String} {cc : ByteArray} {nL pc fr lo : Nat} {ret0 : Option FieldType} {nm : String} {lv : List (Nat × Value)} {st st0 : List Value} {M M0 M1 : Mm}
theorem go_throw {c9 ik is ic : Nat} {text : String} (hE : CeX x K own cc nL ret0 fr lo nm M0) (hfit : Bundle.fit (exN c9) = true) (hlk : Cond.classLink own ik (exN c9) ∈ wsL_law) (hini : Cond.initialized (exN c9) ∈ wsL_law) (hstr : ∀ s H, Zs x s H → ∃ a, vk_R own is text a s)
    (hat : ∀ (s : State) (args : Array Value) (H : Heap), (∀ w ∈ wsL_law, w.before args s = true) → Zs x s H → ∀ w ∈ vx_atS own ic (exN c9) ["java/lang/RuntimeException", "java/lang/Exception"], w.before args s = true)
    (hgood : ∀ w ∈ Cond.classLink own ik (exN c9) :: Cond.initialized (exN c9) :: vx_atS own ic (exN c9) ["java/lang/RuntimeException", "java/lang/Exception"], vx_ot w = true)
    (hX : mX M + 1 ≤ xC x) (hS : mS M + 6 ≤ xL x) (hfr : 6 ≤ fr) (hlo : 90 ≤ lo) (hcat : (st.map fun v => v.category).sum ≤ 8)
    (d0 : decode cc pc = .ok (.new ik, 3)) (d3 : decode cc (pc + 3) = .ok (.dup, 1)) (d4 : decode cc (pc + 4) = .ok (.ldc is, 2)) (d6 : decode cc (pc + 6) = .ok (.invokespecial ic, 3)) (d9 : decode cc (pc + 9) = .ok (.athrow, 1)) : Go x K nL (QX x K M0 c9 M) pc lv st M := by
  obtain ⟨p, l, e, R, s, m, args, below, meth, c⟩ := K
  obtain ⟨⟨⟨hx, hb, hml, hown, hts, hlk9⟩, -, hR, h4, h5, h6, h7, -, hxB⟩, hno, hst⟩ := hE
  intro H locs ls cells slots hl hw
  have hR' : R = rmF x fr lo M0 := hR
  have h4' : s.heap.size = mX M0 := h4
  have h5' : hs s.heap = mS M0 := h5
  obtain ⟨sa, hsa⟩ := hstr _ _ hw.2.1
  refine W.tight (fun hsl => ?_)
  have hq := room_new (z := 6) hR h4 h5 hw hsl hX hS
  have hsz : s.heap.size ≤ H.size := hw.2.2.1
  obtain ⟨g1, g2, g3, g4, g5, g6⟩ := hw.1
  have hZ0 : Zs x s H := hw.2.1
  have hback : ∀ a : Nat, a < H.size → ¬ xA x a → s.heap[a]? = H[a]? := fun a _ h' => (hw.2.2.2.1 a (by have : ¬ xB x ≤ a := h'; omega) h').symm
  have hU0 := vx_Zq.kept hZ0.2.2.1 hback
  have hN0 := vx_Zq.kept hZ0.2.2.2.1 hback
  refine vx_throwS9 hx hb hst hown hfit (by decide +kernel) (hts _ hlk) (hts _ hini) hsa (hat _ _ _ hts hZ0) hgood hU0 hN0 hw.2.2 (by rw [hml]; exact hl.1) d0 d3 d4 d6 d9 (fun z hz => (hno z hz).elim) ?_ ?_ hq.1 hq.2 hlk9 ?_ hw.2.2.2.2 ?_ ?_
  · rw [hR']; show 2 + 3 < fr; omega
  · rw [hR']; show _ + (13 * 3 + 43) ≤ lo; omega
  · intro t ha hge hsm hle hsl2
    refine ⟨rfl, fun a ha9 => ⟨(g1 a ha9).1.kept (hsm a (g1 a ha9).1.lt), (g1 a ha9).2⟩, by rw [← g2]; exact hle, by rw [← g3]; exact hsl2, Nat.le_trans hsz hge, fun q h1 h2 => ?_⟩
    rw [hsm q (Nat.lt_of_lt_of_le h1 hsz)]
    exact hw.2.2.2.1 q h1 h2
  · show H.size - s.heap.size + 1 ≤ xC x - mX M0
    omega
  · show hs H - hs s.heap + 6 ≤ xL x - mS M0
    omega
theorem go_throwW {c9 ik is ic : Nat} {text : String} (hE : CeX x K own cc nL ret0 fr lo nm M0) (hfit : Bundle.fit (exN c9) = true) (hlk : Cond.classLink own ik (exN c9) ∈ wsL_law) (hini : Cond.initialized (exN c9) ∈ wsL_law) (hstr : ∀ s H, Zs x s H → ∃ a, vk_R own is text a s)
    (hat : ∀ (s : State) (args : Array Value) (H : Heap), (∀ w ∈ wsL_law, w.before args s = true) → Zs x s H → ∀ w ∈ vx_atS own ic (exN c9) ["java/lang/RuntimeException", "java/lang/Exception"], w.before args s = true)
    (hgood : ∀ w ∈ Cond.classLink own ik (exN c9) :: Cond.initialized (exN c9) :: vx_atS own ic (exN c9) ["java/lang/RuntimeException", "java/lang/Exception"], vx_ot w = true)
    (hX : mX M + 1 ≤ xC x) (hS : mS M + 6 ≤ xL x) (hfr : 6 ≤ fr) (hlo : 90 ≤ lo) (hcat : (st.map fun v => v.category).sum ≤ 8)
    (d0 : decode cc pc = .ok (.new ik, 3)) (d3 : decode cc (pc + 3) = .ok (.dup, 1)) (d4 : decode cc (pc + 4) = .ok (.ldc_w is, 3)) (d6 : decode cc (pc + 7) = .ok (.invokespecial ic, 3)) (d9 : decode cc (pc + 10) = .ok (.athrow, 1)) : Go x K nL (QX x K M0 c9 M) pc lv st M := by
  obtain ⟨p, l, e, R, s, m, args, below, meth, c⟩ := K
  obtain ⟨⟨⟨hx, hb, hml, hown, hts, hlk9⟩, -, hR, h4, h5, h6, h7, -, hxB⟩, hno, hst⟩ := hE
  intro H locs ls cells slots hl hw
  have hR' : R = rmF x fr lo M0 := hR
  have h4' : s.heap.size = mX M0 := h4
  have h5' : hs s.heap = mS M0 := h5
  obtain ⟨sa, hsa⟩ := hstr _ _ hw.2.1
  refine W.tight (fun hsl => ?_)
  have hq := room_new (z := 6) hR h4 h5 hw hsl hX hS
  have hsz : s.heap.size ≤ H.size := hw.2.2.1
  obtain ⟨g1, g2, g3, g4, g5, g6⟩ := hw.1
  have hZ0 : Zs x s H := hw.2.1
  have hback : ∀ a : Nat, a < H.size → ¬ xA x a → s.heap[a]? = H[a]? := fun a _ h' => (hw.2.2.2.1 a (by have : ¬ xB x ≤ a := h'; omega) h').symm
  have hU0 := vx_Zq.kept hZ0.2.2.1 hback
  have hN0 := vx_Zq.kept hZ0.2.2.2.1 hback
  refine vx_throwSW9 hx hb hst hown hfit (by decide +kernel) (hts _ hlk) (hts _ hini) hsa (hat _ _ _ hts hZ0) hgood hU0 hN0 hw.2.2 (by rw [hml]; exact hl.1) d0 d3 d4 d6 d9 (fun z hz => (hno z hz).elim) ?_ ?_ hq.1 hq.2 hlk9 ?_ hw.2.2.2.2 ?_ ?_
  · rw [hR']; show 2 + 3 < fr; omega
  · rw [hR']; show _ + (13 * 3 + 43) ≤ lo; omega
  · intro t ha hge hsm hle hsl2
    refine ⟨rfl, fun a ha9 => ⟨(g1 a ha9).1.kept (hsm a (g1 a ha9).1.lt), (g1 a ha9).2⟩, by rw [← g2]; exact hle, by rw [← g3]; exact hsl2, Nat.le_trans hsz hge, fun q h1 h2 => ?_⟩
    rw [hsm q (Nat.lt_of_lt_of_le h1 hsz)]
    exact hw.2.2.2.1 q h1 h2
  · show H.size - s.heap.size + 1 ≤ xC x - mX M0
    omega
  · show hs H - hs s.heap + 6 ≤ xL x - mS M0
    omega
theorem go_throw1 {text : String} {is : Nat} (hE : CeX x K RX4 cc nL ret0 fr lo nm M0) (hlk : Cond.classLink RX4 228 "java/lang/IllegalArgumentException" ∈ wsL_law) (hini : Cond.initialized "java/lang/IllegalArgumentException" ∈ wsL_law) (hstr : ∀ s H, Zs x s H → ∃ a, vk_R RX4 is text a s)
    (hX : mX M + 1 ≤ xC x ∧ mS M + 6 ≤ xL x) (hfr : 6 ≤ fr) (hlo : 90 ≤ lo) (hcat : (st.map fun v => v.category).sum ≤ 8)
    (d0 : decode cc pc = .ok (.new 228, 3)) (d3 : decode cc (pc + 3) = .ok (.dup, 1)) (d4 : decode cc (pc + 4) = .ok (.ldc is, 2)) (d6 : decode cc (pc + 6) = .ok (.invokespecial 232, 3)) (d9 : decode cc (pc + 9) = .ok (.athrow, 1)) : Go x K nL (QX x K M0 1 M) pc lv st M :=
  go_throw (c9 := 1) hE (by decide +kernel) hlk hini hstr (fun s args H h1 h2 => xa1 h1 h2) xg1 hX.1 hX.2 hfr hlo hcat d0 d3 d4 d6 d9
theorem go_throw2 {text : String} {is : Nat} (hE : CeX x K RX4 cc nL ret0 fr lo nm M0) (hlk : Cond.classLink RX4 256 "java/lang/IllegalStateException" ∈ wsL_law) (hini : Cond.initialized "java/lang/IllegalStateException" ∈ wsL_law) (hstr : ∀ s H, Zs x s H → ∃ a, vk_R RX4 is text a s)
    (hX : mX M + 1 ≤ xC x ∧ mS M + 6 ≤ xL x) (hfr : 6 ≤ fr) (hlo : 90 ≤ lo) (hcat : (st.map fun v => v.category).sum ≤ 8)
    (d0 : decode cc pc = .ok (.new 256, 3)) (d3 : decode cc (pc + 3) = .ok (.dup, 1)) (d4 : decode cc (pc + 4) = .ok (.ldc_w is, 3)) (d6 : decode cc (pc + 7) = .ok (.invokespecial 260, 3)) (d9 : decode cc (pc + 10) = .ok (.athrow, 1)) : Go x K nL (QX x K M0 2 M) pc lv st M :=
  go_throwW (c9 := 2) hE (by decide +kernel) hlk hini hstr (fun s args H h1 h2 => xa2 h1 h2) xg2 hX.1 hX.2 hfr hlo hcat d0 d3 d4 d6 d9
/-- a callee's throw goes on to the caller -/
theorem run_goX {c9 pc : Nat} {p : Program} {l : Launch} {e : Env} {R : Room} {s : State} {m : MethodId} {args : Array Value} {below : List Frame} {meth : Method} {c : Code} {H : Heap} {locs : List Loc} {cells slots mc ms mc0 ms0 : Nat} {ls : Array Slot} {a : Array Value} {st0 rest : List Value} (hr : vx_Run p l e R s m args below meth c H locs cells slots mc ms (F0 m pc ls st0) rest (QN a) (XC9 x c9 M1) (xA x))
    (hw : Wo x M s H locs) (hno : ∀ z ∈ c.exceptionTable.toList, False) (hlk : meth.locks = false) (hc : cells + mc ≤ mc0) (hsm : slots + ms ≤ ms0) : W p l e R s m args below meth c H locs cells slots (vx_MQ below QN (XC9 x c9 M1) args s mc0 ms0 (xA x)) (F0 m pc ls st0) := by
  intro T hT X
  rcases hr T hT X with ⟨v, st₀, t, T', L, h0, X', hL, e1, e2, hq, stp⟩ | ⟨q, st₀, t, T', L, E, ce, h0, X', hL, e1, e2, ⟨x1, x2, x3, x4, x6, x7⟩, hce, hcv, hcl, stp⟩
  · exact hq.elim
  · rw [h0] at x6 x7
    obtain ⟨t2, a1, b1⟩ := vx_out (p := p) (l := l) (e := e) (R := R) (s := s) (m := m) (args := args) (below := below) (meth := meth) (c := c) (H := T'.heap) (locs := locs ++ L) (cells := cells + mc) (slots := slots + ms) (mc := mc0) (ms := ms0) (free := xA x) (ls := ls) (rest := rest) (Qc := QN) (XC := XC9 x c9 M1) (pc := pc) (E := E) (ce := ce) (q := q) (fun z hz => (hno z hz).elim) hlk (by rw [e1]; exact hce) hcv hcl
      (fun t' ht' _ => ⟨x1, by rw [ht', e1]; exact x2, by rw [ht', e1]; exact x3, by rw [ht', e1]; exact x4, by rw [ht', e1]; exact Nat.le_trans hw.2.2.1 x6, fun q9 h1 h2 => by
        rw [ht', e1, x7 q9 (Nat.lt_of_lt_of_le h1 hw.2.2.1) h2]
        exact hw.2.2.2.1 q9 h1 h2⟩)
      (fun z hz => by
        rcases List.mem_append.mp hz with h | h
        · exact hw.2.2.2.2 z h
        · exact hL z h) hc hsm T' rfl X'
    exact ⟨t2, stp.trans a1, b1⟩
variable {y : MethodName} {bytes : ByteArray} {maxL n index fr' lo' b c9 : Nat} {ret : Option FieldType} {As : List Value}
theorem go_callVX {C : String} {T : u_T} {N κ : Nat} (hX : CeX x K own cc nL ret0 fr lo nm M0) (hF : FnX K.2.1 x y bytes maxL ret fr' lo' (.ref b :: As) M c9 M1) (hy : okY y n) (hn : As.length = n)
    (hk : mK M b = κ) (hO : isO κ = true) (hc : vwCl[oI κ]? = some (C, T, N)) (hcode : Cond.code y bytes maxL ret ∈ wsL_law) (hlink : Cond.methodLink own index y ∈ wsL_law) (hinst : Cond.instanceMethod y ∈ wsL_law) (hsel : Cond.selects C y y ∈ wsL_law) (hini : Cond.initialized y.cls ∈ wsL_law)
    (hst : st0 = As.reverse ++ .ref b :: st) (hcat : (st.map fun v => v.category).sum ≤ 8) (hfr : fr' + 1 ≤ fr) (hlo : 8 + (maxL + 11) + lo' ≤ lo) (d : decode cc pc = .ok (.invokevirtual index, 3)) : Go x K nL (QX x K M0 c9 M1) pc lv st0 M := by
  obtain ⟨p, l, e, R, s, m, args, below, meth, c⟩ := K
  obtain ⟨⟨⟨hx, hb, hml, hown, hts, hlk⟩, -, hR, h4, h5, h6, h7, -⟩, hno, -⟩ := hX
  intro H locs ls cells slots hl hw
  subst hst
  have hR' : R = rmF x fr lo M0 := hR
  obtain ⟨r, hr1, cell, q1, q2, q3, -⟩ := (show va_at (xD x) vwCl (b, .inr (oI κ, mkO (oG M b) 0 (oS κ))) H by rw [← mC_o hk hO]; exact (hw.1.1 b (by rw [hk]; exact (isO_ne hO).1)).1)
  have hrc : r = (C, T, N) := Option.some.inj (hr1.symm.trans hc)
  subst hrc
  have hcls := (hw.2.1.1.1 (oI κ) _ hc).2.1
  refine W.tight (fun hsl => ?_)
  have hq := room_go (M := M) hR h4 h5 hw hsl
  refine run_goX (vx_runV (As := As) (rest := st) (C := C) (n := n) (nL := nL) ⟨hx, hb, hml, hown, hts⟩ hF ⟨⟨rfl, rfl, by rw [hR']; exact hfr, by rw [hR']; exact hlo, pay9 hts hcode, List.mem_cons_self, hts _ hcode, hts _ hini, ⟨hy.1, hy.2.1⟩, okY_len hy, hts _ hlink⟩, hts _ hinst, hts _ hsel⟩ ⟨pcBlind, ⟨cell, q1, by rw [q3]; rfl, by rw [q2]; exact hcls⟩, fun U hU hW => ⟨rfl, by rw [hU]; exact hw.1, by rw [hU]; exact hw.2.1.warm hW⟩⟩ rfl hn hl.1 rfl (lv_room hcat) d hq) hw hno hlk ?_ ?_
  · rw [hR'] at hq; exact hq.1
  · rw [hR'] at hq; exact hq.2
theorem go_callSX (hX : CeX x K own cc nL ret0 fr lo nm M0) (hF : FnX K.2.1 x y bytes maxL ret fr' lo' As M c9 M1) (hy : okY y n) (hn : As.length = n)
    (hcode : Cond.code y bytes maxL ret ∈ wsL_law) (hlink : Cond.methodLink own index y ∈ wsL_law) (hstat : Cond.static y ∈ wsL_law) (hini : Cond.initialized y.cls ∈ wsL_law)
    (hst : st0 = As.reverse ++ st) (hcat : (st.map fun v => v.category).sum ≤ 8) (hfr : fr' + 1 ≤ fr) (hlo : 8 + (maxL + 11) + lo' ≤ lo) (d : decode cc pc = .ok (.invokestatic index, 3)) : Go x K nL (QX x K M0 c9 M1) pc lv st0 M := by
  obtain ⟨p, l, e, R, s, m, args, below, meth, c⟩ := K
  obtain ⟨⟨⟨hx, hb, hml, hown, hts, hlk⟩, -, hR, h4, h5, h6, h7, -⟩, hno, -⟩ := hX
  intro H locs ls cells slots hl hw
  subst hst
  have hR' : R = rmF x fr lo M0 := hR
  refine W.tight (fun hsl => ?_)
  have hq := room_go (M := M) hR h4 h5 hw hsl
  refine run_goX (vx_runS (As := As) (rest := st) (n := n) (nL := nL) ⟨hx, hb, hml, hown, hts⟩ hF ⟨⟨rfl, rfl, by rw [hR']; exact hfr, by rw [hR']; exact hlo, pay9 hts hcode, List.mem_cons_self, hts _ hcode, hts _ hini, ⟨hy.1, hy.2.1⟩, okY_len hy, hts _ hlink⟩, hts _ hstat⟩ ⟨pcBlind, fun U hU hW => ⟨rfl, by rw [hU]; exact hw.1, by rw [hU]; exact hw.2.1.warm hW⟩⟩ rfl hn hl.1 rfl (lv_room hcat) d hq) hw hno hlk ?_ ?_
  · rw [hR'] at hq; exact hq.1
  · rw [hR'] at hq; exact hq.2
end Throws9

theorem df_1 : ∀ j, j < 4 → defaultValue (tyX0 j) = vp_V (mkO (fun _ b => if b = true then .int 0 else .null) 0 (oS 1)) j := by decide +kernel
theorem df_2 : ∀ j, j < 4 → defaultValue (tyX1 j) = vp_V (mkO (fun _ b => if b = true then .int 0 else .null) 0 (oS 2)) j := by decide +kernel
theorem df_3 : ∀ j, j < 5 → defaultValue (tyX2 j) = vp_V (mkO (fun _ b => if b = true then .int 0 else .null) 0 (oS 3)) j := by decide +kernel
theorem df_4 : ∀ j, j < 16 → defaultValue (tyX3 j) = vp_V (mkO (fun _ b => if b = true then .int 0 else .null) 0 (oS 4)) j := by decide +kernel
theorem df_5 : ∀ j, j < 7 → defaultValue (tyX4 j) = vp_V (mkO (fun _ b => if b = true then .int 0 else .null) 0 (oS 5)) j := by decide +kernel
theorem df_6 : ∀ j, j < 28 → defaultValue (tyX5 j) = vp_V (mkO (fun _ b => if b = true then .int 0 else .null) 0 (oS 6)) j := by decide +kernel
theorem df_7 : ∀ j, j < 3 → defaultValue (tyJx4a65c j) = vp_V (mkO (fun _ b => if b = true then .int 0 else .null) 0 (oS 7)) j := by decide +kernel
