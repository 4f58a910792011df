/-! contracts as answers and memories; calls; returns -/
set_option maxRecDepth 20000 in
theorem gd0 : wsL_law0.all goodWord = true := by decide +kernel
theorem gd_all : ∀ w ∈ wsL_law, goodWord w = true := fun w h => (List.mem_append.mp h).elim (fun h => (List.mem_append.mp h).elim (fun h => List.all_eq_true.mp gd0 w h) (fun h => (List.mem_filter.mp h).2)) (fun h => (List.mem_filter.mp h).2)
def Qr (x : Cx) (rv : Option Value) (M' : Mm) : Array Value → State → Outcome → State → Prop := fun _ st o t => o = .returned rv ∧ Hp x M' t.heap ∧ va_F (xA x) st t
/-- a method's room: frames and words of locals as given, all the cells and slots that are left -/
def rmF (x : Cx) (fr lo : Nat) (M : Mm) : Room := { frames := fr, cells := xC x - mX M, slots := xL x - mS M, locals := lo }
/-- called with av over the memory M, y answers rv and leaves M' -/
def Fn (l : Launch) (x : Cx) (y : MethodName) (cc : ByteArray) (nL : Nat) (ret : Option FieldType) (fr lo : Nat) (av : List Value) (M : Mm) (rv : Option Value) (M' : Mm) : Prop :=
  Met l y (Cond.code y cc nL ret :: wsL_law) (rmF x fr lo M) (va_Pc av (fun U => Hp x M U.heap ∧ Zs x U U.heap)) (Qr x rv M') (xC x - mX M) (xL x - mS M) (xA x)
/-- an invocation that began over M0 -/
def Ce (x : Cx) (K : Ct) (own : String) (cc : ByteArray) (nL : Nat) (ret : Option FieldType) (fr lo : Nat) (nm : String) (M0 : Mm) : Prop :=
  Cb K own cc nL ∧ K.2.2.2.2.2.2.2.2.1.sig.returnType = ret ∧ K.2.2.2.1 = rmF x fr lo M0 ∧ K.2.2.2.2.1.heap.size = mX M0 ∧ hs K.2.2.2.2.1.heap = mS M0 ∧ mX M0 ≤ xC x ∧ mS M0 ≤ xL x ∧ K.2.2.2.2.2.2.2.2.1.name = nm ∧ xB x ≤ mX M0
def Qf (x : Cx) (K : Ct) (M0 : Mm) (rv : Option Value) (M' : Mm) : State → Prop := MQ K.2.2.2.2.2.2.2.1 (Qr x rv M') K.2.2.2.2.2.2.1 K.2.2.2.2.1 (xC x - mX M0) (xL x - mS M0) (xA x)
theorem pcBlind {x : Cx} {M : Mm} {av : List Value} : FrameBlind (va_Pc av (fun U => Hp x M U.heap ∧ Zs x U U.heap)) := fun a U g mk h => ⟨h.1, h.2.1, Zs.same (s := U) (U := U.calling g mk a) (H := U.heap) rfl h.2.2⟩
theorem Fn.of {l : Launch} {x : Cx} {y : MethodName} {cc : ByteArray} {nL : Nat} {ret : Option FieldType} {fr lo : Nat} {av : List Value} {M : Mm} {rv : Option Value} {M' : Mm} {lv : List (Nat × Value)} (hy : plainName y.cls = true) (hlen : (lg_sl av).length ≤ nL) (hlv : lv_args 0 av = lv)
    (h : ∀ K : Ct, K.2.1 = l → Ce x K y.cls cc nL ret fr lo y.name M → Go x K nL (Qf x K M rv M') 0 lv [] M) : Fn l x y cc nL ret fr lo av M rv M' := by
  refine Met.ofW (cc := cc) (maxL := nL) (ret := ret) hy rfl ?_
  intro p e s m args below meth c s₁ B hml hv
  obtain ⟨rfl, hH, hZ⟩ := hv
  have hts0 := atoms_spec (ws := Cond.code y cc nL ret :: wsL_law) B.pre
  have hts : ∀ w ∈ wsL_law, w.before av.toArray s = true := fun w hw => hts0 w (List.mem_cons_of_mem _ hw)
  have hCb : Cb (p, l, e, (headSpec (Cond.code y cc nL ret :: wsL_law) (rmF x fr lo M)).room, s, m, av.toArray, below, meth, c) y.cls cc nL := ⟨B.exec, B.bytes, hml, findClass_of_methodNamed B.named, hts, B.notSynchronized⟩
  have hl := lv_entry av (n := nL) hlen
  rw [lg_entry_eq]
  generalize (lg_sl av ++ List.replicate (nL - (lg_sl av).length) Slot.unset).toArray = ls at hl ⊢
  rw [hlv] at hl
  exact h (p, l, e, (headSpec (Cond.code y cc nL ret :: wsL_law) (rmF x fr lo M)).room, s, m, av.toArray, below, meth, c) rfl ⟨hCb, B.returns, rfl, hH.2.1, hH.2.2.1, hH.2.2.2.1, hH.2.2.2.2.1, (name_of_methodNamed B.named B.method).1, hH.2.2.2.2.2⟩ s.heap [] ls 0 0 hl ⟨hH, hZ, va_S.rf⟩
section Rets
variable {x : Cx} {K : Ct} {own : String} {cc : ByteArray} {nL pc fr lo : Nat} {nm : String} {lv : List (Nat × Value)} {M M0 : Mm}
theorem go_fin {ret : Option FieldType} (hE : Ce x K own cc nL ret fr lo nm M0) {g : Nat → Array Slot → JFrame} {Q : State → Prop}
    (h : ∀ (H : Heap) (locs : List Loc) (ls : Array Slot), Wo x M K.2.2.2.2.1 H locs → W K.1 K.2.1 K.2.2.1 K.2.2.2.1 K.2.2.2.2.1 K.2.2.2.2.2.1 K.2.2.2.2.2.2.1 K.2.2.2.2.2.2.2.1 K.2.2.2.2.2.2.2.2.1 K.2.2.2.2.2.2.2.2.2 H locs (xC x - mX M0) (xL x - mS M0) Q (g pc ls)) :
    ∀ (H : Heap) (locs : List Loc) (ls : Array Slot) (cells slots : Nat), lv_has ls nL lv → Wo x M K.2.2.2.2.1 H locs → W K.1 K.2.1 K.2.2.1 K.2.2.2.1 K.2.2.2.2.1 K.2.2.2.2.2.1 K.2.2.2.2.2.2.1 K.2.2.2.2.2.2.2.1 K.2.2.2.2.2.2.2.2.1 K.2.2.2.2.2.2.2.2.2 H locs cells slots Q (g pc ls) := by
  intro H locs ls cells slots hl hw
  obtain ⟨-, -, -, h4, h5, h6, h7, -⟩ := hE
  obtain ⟨-, g2, g3, g4, g5, -⟩ := hw.1
  refine W.tight (fun _ => W.widen (k := xC x - mX M0) (n := xL x - mS M0) ?_ ?_ (h H locs ls hw))
  · rw [h4, g2]; omega
  · rw [h5, g3]; omega
theorem go_iret {v : Int32} (hE : Ce x K own cc nL (some .int) fr lo nm M0) (d : decode cc pc = .ok (.ireturn, 1)) : Go x K nL (Qf x K M0 (some (.int v)) M) pc lv [.int v] M := by
  refine go_fin hE (g := fun pc ls => F0 K.2.2.2.2.2.1 pc ls [.int v]) fun H locs ls hw => ?_
  obtain ⟨⟨hx, hb, -, -, -, hlk⟩, hr, -⟩ := hE
  exact W.iret hx hb hr (fun t ht hW => ⟨rfl, by rw [ht]; exact hw.1, hw.2.2.F ht⟩) hw.2.2.2.2 d hlk
theorem go_zret {v : Int32} (hE : Ce x K own cc nL (some .boolean) fr lo nm M0) (hv : v = 0 ∨ v = 1) (d : decode cc pc = .ok (.ireturn, 1)) : Go x K nL (Qf x K M0 (some (.int v)) M) pc lv [.int v] M := by
  refine go_fin hE (g := fun pc ls => F0 K.2.2.2.2.2.1 pc ls [.int v]) fun H locs ls hw => ?_
  obtain ⟨⟨hx, hb, -, -, -, hlk⟩, hr, -⟩ := hE
  exact W.zret hx hb hr (by rcases hv with rfl | rfl <;> decide +kernel) (fun t ht hW => ⟨rfl, by rw [ht]; exact hw.1, hw.2.2.F ht⟩) hw.2.2.2.2 d hlk
theorem go_vret (hE : Ce x K own cc nL none fr lo nm M0) (d : decode cc pc = .ok (.return_, 1)) : Go x K nL (Qf x K M0 none M) pc lv [] M := by
  refine go_fin hE (g := fun pc ls => F0 K.2.2.2.2.2.1 pc ls []) fun H locs ls hw => ?_
  obtain ⟨⟨hx, hb, -, -, -, hlk⟩, hr, -⟩ := hE
  exact W.vret hx hb hr (fun t ht hW => ⟨rfl, by rw [ht]; exact hw.1, hw.2.2.F ht⟩) hw.2.2.2.2 d hlk
theorem go_aret {v : Nat} {rt : FieldType} (hE : Ce x K own cc nL (some rt) fr lo nm M0) (hrt : (∃ n, rt = .object n) ∨ ∃ t, rt = .array t) (d : decode cc pc = .ok (.areturn, 1)) : Go x K nL (Qf x K M0 (some (.ref v)) M) pc lv [.ref v] M := by
  refine go_fin hE (g := fun pc ls => F0 K.2.2.2.2.2.1 pc ls [.ref v]) fun H locs ls hw => ?_
  obtain ⟨⟨hx, hb, -, -, -, hlk⟩, hr, -⟩ := hE
  exact W.aret hx hb hr hrt (Or.inr ⟨v, rfl⟩) (fun t ht hW => ⟨rfl, by rw [ht]; exact hw.1, hw.2.2.F ht⟩) hw.2.2.2.2 d hlk
end Rets
section Calls9
variable {p : Program} {l : Launch} {e : Env} {R : Room} {s : State} {m : MethodId} {args : Array Value} {below : List Frame} {meth : Method} {c : Code} {H : Heap} {locs : List Loc} {cells slots : Nat} {Q : State → Prop}
theorem run_go {x : Cx} {M M1 : Mm} {rv : Option Value} {a : Array Value} {mc ms pc : Nat} {ls : Array Slot} {st0 rest : List Value} (hr : va_Run p l e R s m args below meth c H locs cells slots mc ms (F0 m pc ls st0) rest (Qr x rv M1 a) (xA x)) (hw : Wo x M s H locs)
    (k : ∀ (H1 : Heap) (locs1 : List Loc) (cells1 slots1 : Nat), Wo x M1 s H1 locs1 → W p l e R s m args below meth c H1 locs1 cells1 slots1 Q (F0 m (pc + 3) ls (rv.toList ++ rest))) : W p l e R s m args below meth c H locs cells slots Q (F0 m pc ls st0) := by
  intro T hT X
  obtain ⟨v, st₀, t, T', L, h0, X', hL, e1, e2, ⟨hv, hp, hz, hk⟩, stp⟩ := hr T hT X
  cases hv
  rw [h0] at hz hk
  have hwo : Wo x M1 s T'.heap (locs ++ L) := by
    refine ⟨by rw [e1]; exact hp, hw.2.1.kept (fun q h1 h2 => by rw [e1]; exact hk q h1 h2), Nat.le_trans hw.2.2.1 (by rw [e1]; exact hz), fun q h1 h2 => ?_, fun q hq => ?_⟩
    · rw [e1, hk q (Nat.lt_of_lt_of_le h1 hw.2.2.1) h2]; exact hw.2.2.2.1 q h1 h2
    · rcases List.mem_append.mp hq with h | h
      · exact hw.2.2.2.2 q h
      · exact hL q h
  obtain ⟨t2, a1, b1⟩ := k T'.heap (locs ++ L) _ _ hwo T' rfl X'
  exact ⟨t2, stp t2 a1, b1⟩
theorem pay9 (hts : ∀ w ∈ wsL_law, w.before args s = true) {w0 : Cond} (hc : w0 ∈ wsL_law) : ∀ w ∈ w0 :: wsL_law, ∀ (a' : Array Value) (U : State), s.WarmedH U.vm → w.before a' U = true := by
  intro w hw a' U hW
  have hm : w ∈ wsL_law := (List.mem_cons.mp hw).elim (fun h => by rw [h]; exact hc) id
  exact word_at hW (good_of_word (gd_all w hm)) (hts w hm)
end Calls9
/-- what a call's name must be -/
def okY (y : MethodName) (n : Nat) : Prop := y.cls ≠ "java/lang/invoke/MethodHandle" ∧ y.cls ≠ "java/lang/invoke/VarHandle" ∧ (parseMethodDescriptor y.desc).map (fun d => d.parameters.length) = some n
theorem okY_len {y : MethodName} {n : Nat} (h : okY y n) : ∀ sig, parseMethodDescriptor y.desc = some sig → n = sig.parameters.length := by
  intro sig hs
  have h2 := h.2.2
  rw [hs] at h2
  exact (Option.some.inj h2).symm
section GoCalls
variable {x : Cx} {K : Ct} {own : String} {cc : ByteArray} {nL pc fr lo : Nat} {ret0 : Option FieldType} {nm : String} {Q : State → Prop} {lv : List (Nat × Value)} {st st0 : List Value} {M M0 M1 : Mm} {rv : Option Value}
variable {y : MethodName} {bytes : ByteArray} {maxL n index fr' lo' b : Nat} {ret : Option FieldType} {As : List Value}
theorem go_callV {C : String} {T : u_T} {N κ : Nat} (hE : Ce x K own cc nL ret0 fr lo nm M0) (hF : Fn K.2.1 x y bytes maxL ret fr' lo' (.ref b :: As) M rv M1) (hy : okY y n) (hn : As.length = n)
    (hk : mK M b = κ) (hO : isO κ = true) (hc : vwCl[oI κ]? = some (C, T, N)) (hcode : Cond.code y bytes maxL ret ∈ wsL_law) (hlink : Cond.methodLink own index y ∈ wsL_law) (hinst : Cond.instanceMethod y ∈ wsL_law) (hsel : Cond.selects C y y ∈ wsL_law) (hini : Cond.initialized y.cls ∈ wsL_law)
    (hst : st0 = As.reverse ++ .ref b :: st) (hcat : (st.map fun v => v.category).sum ≤ 8) (hfr : fr' + 1 ≤ fr) (hlo : 8 + (maxL + 11) + lo' ≤ lo) (d : decode cc pc = .ok (.invokevirtual index, 3)) (k : Go x K nL Q (pc + 3) lv (rv.toList ++ st) M1) : Go x K nL Q pc lv st0 M := by
  obtain ⟨p, l, e, R, s, m, args, below, meth, c⟩ := K
  obtain ⟨⟨hx, hb, hml, hown, hts, hlk⟩, -, hR, h4, h5, h6, h7, -⟩ := hE
  intro H locs ls cells slots hl hw
  subst hst
  obtain ⟨r, hr1, cell, q1, q2, q3, -⟩ := (show va_at (xD x) vwCl (b, .inr (oI κ, mkO (oG M b) 0 (oS κ))) H by rw [← mC_o hk hO]; exact (hw.1.1 b (by rw [hk]; exact (isO_ne hO).1)).1)
  have hrc : r = (C, T, N) := Option.some.inj (hr1.symm.trans hc)
  subst hrc
  have hcls := (hw.2.1.1.1 (oI κ) _ hc).2.1
  refine W.tight (fun hsl => run_go (va_runV (As := As) (rest := st) (C := C) (n := n) (nL := nL) ⟨hx, hb, hml, hown, hts⟩ hF ⟨⟨rfl, rfl, ?_, ?_, pay9 hts hcode, List.mem_cons_self, hts _ hcode, hts _ hini, ⟨hy.1, hy.2.1⟩, okY_len hy, hts _ hlink⟩, hts _ hinst, hts _ hsel⟩ ⟨pcBlind, ⟨cell, q1, by rw [q3]; rfl, by rw [q2]; exact hcls⟩, fun U hU hW => ⟨rfl, by rw [hU]; exact hw.1, by rw [hU]; exact hw.2.1.warm hW⟩⟩ rfl hn hl.1 rfl (lv_room hcat) d ?_) hw (fun H1 locs1 cells1 slots1 hw1 => k H1 locs1 ls cells1 slots1 hl hw1))
  · have : R = rmF x fr lo M0 := hR
    rw [this]; exact hfr
  · have : R = rmF x fr lo M0 := hR
    rw [this]; exact hlo
  · have hR' : R = rmF x fr lo M0 := hR
    have h4' : s.heap.size = mX M0 := h4
    have h5' : hs s.heap = mS M0 := h5
    obtain ⟨-, g2, g3, g4, g5, -⟩ := hw.1
    have hle := hw.2.2.1
    have hsz : s.heap.size ≤ H.size := hle
    rw [hR']
    refine ⟨?_, ?_⟩
    · show (H.size - s.heap.size) + (xC x - mX M) ≤ xC x - mX M0
      omega
    · show (hs H - hs s.heap) + (xL x - mS M) ≤ xL x - mS M0
      omega
end GoCalls
