/-! new cells, casts, arrays of references, copies -/
/-- whether the elements may lie in an Object[] -/
def okE (M : Mm) (a sp n : Nat) : Bool := (List.range n).all (fun i => match mP M a (sp + i) with
  | none => true
  | some y => mK M y == 2 || mK M y == 4)
theorem okE_at {M : Mm} {a sp n : Nat} (h : okE M a sp n = true) {i y : Nat} (hi : i < n) (hy : mP M a (sp + i) = some y) : mK M y = 2 ∨ mK M y = 4 := by
  have h1 := List.all_eq_true.mp h i (List.mem_range.mpr hi)
  rw [hy] at h1
  simpa using h1
section Rows3
variable {x : Cx} {K : Ct} {own : String} {cc : ByteArray} {nL pc fr lo : Nat} {ret0 : Option FieldType} {nm : String} {Q : State → Prop} {lv : List (Nat × Value)} {st : List Value} {M M0 : Mm}
theorem any_go {s : State} {H : Heap} {locs : List Loc} (hw : Wo x M s H locs) {y : Nat} (hy : mK M y = 2 ∨ mK M y = 4) : va_Any "java/lang/Object" s H y := by
  have hcs : ∀ w ∈ cst, va_Nw w s := hw.2.1.2.2.2.2.2.2.2.2.2.2.2.2.2
  rcases hy with hk | hk
  · have hP := hw.1.at (a := y) (by rw [hk]; decide)
    rw [mC_o hk rfl] at hP
    refine va_rAny (q0 := 0) (ci := 2) hw.2.1.1 hP rfl (r := (RX1, TX1, 4)) rfl fun comp c0 h1 h2 => ?_
    obtain ⟨c3, t3, w1, w2, w3⟩ := Cond.castable_spec (va_Nw.use (A := #[]) rfl (hcs (.castable RX1 "java/lang/Object") (by simp [cst])))
    cases Option.some.inj (h2.symm.trans w1)
    cases Option.some.inj (h1.symm.trans w2)
    exact w3
  · have hP := hw.1.at (a := y) (by rw [hk]; decide)
    rw [mC_o hk rfl] at hP
    refine va_rAny (q0 := 0) (ci := 4) hw.2.1.1 hP rfl (r := (RX3, TX3, 16)) rfl fun comp c0 h1 h2 => ?_
    obtain ⟨c3, t3, w1, w2, w3⟩ := Cond.castable_spec (va_Nw.use (A := #[]) rfl (hcs (.castable RX3 "java/lang/Object") (by simp [cst])))
    cases Option.some.inj (h2.symm.trans w1)
    cases Option.some.inj (h1.symm.trans w2)
    exact w3
theorem go_cast {C : String} {T : u_T} {N κ index a : Nat} (hC : Cb K own cc nL) (hk : mK M a = κ) (hO : isO κ = true) (hc : vwCl[oI κ]? = some (C, T, N)) (hlk : Cond.classLink own index C ∈ wsL_law) (d : decode cc pc = .ok (.checkcast index, 3)) (k : Go x K nL Q (pc + 3) lv (.ref a :: st) M) : Go x K nL Q pc lv (.ref a :: st) M := by
  obtain ⟨p, l, e, R, s, m, args, below, meth, c⟩ := K
  obtain ⟨hx, hb, hml, hown, hts, hlk9⟩ := hC
  intro H locs ls cells slots hl hw
  have hP := hw.1.at (a := a) (by rw [hk]; exact (isO_ne hO).1)
  rw [mC_o hk hO] at hP
  exact va_castS hx hb hown (hts _ hlk) (hw.2.1.1.1 (oI κ) _ hc).2 (va_recv (q0 := 0) hw.2.1.1 hP hc rfl) d (k H locs ls cells slots hl hw)
theorem go_acmp_eq {a b : Nat} {off : Int} {t : Nat} (hC : Cb K own cc nL) (d : decode cc pc = .ok (.if_acmp .eq off, 3)) (ht : (pc : Int) + off = (t : Int)) (kt : a = b → Go x K nL Q t lv st M) (kf : ¬ a = b → Go x K nL Q (pc + 3) lv st M) : Go x K nL Q pc lv (.ref b :: .ref a :: st) M := by
  obtain ⟨p, l, e, R, s, m, args, below, meth, c⟩ := K
  obtain ⟨hx, hb, hml, hown, hts, hlk9⟩ := hC
  intro H locs ls cells slots hl hw
  exact lv_acmp_eq (rx := some a) (ry := some b) hx hb d ht (fun q => kt (Option.some.inj q) H locs ls cells slots hl hw) (fun q => kf (fun z => q (by rw [z])) H locs ls cells slots hl hw)
theorem go_acmp_ne {a b : Nat} {off : Int} {t : Nat} (hC : Cb K own cc nL) (d : decode cc pc = .ok (.if_acmp .ne off, 3)) (ht : (pc : Int) + off = (t : Int)) (kt : ¬ a = b → Go x K nL Q t lv st M) (kf : a = b → Go x K nL Q (pc + 3) lv st M) : Go x K nL Q pc lv (.ref b :: .ref a :: st) M := by
  obtain ⟨p, l, e, R, s, m, args, below, meth, c⟩ := K
  obtain ⟨hx, hb, hml, hown, hts, hlk9⟩ := hC
  intro H locs ls cells slots hl hw
  exact lv_acmp_ne (rx := some a) (ry := some b) hx hb d ht (fun q => kt (fun z => q (by rw [z])) H locs ls cells slots hl hw) (fun q => kf (Option.some.inj q) H locs ls cells slots hl hw)
theorem go_getE {index : Nat} (hC : Cb K own cc nL) (hlk : Cond.fieldLink own index "java/util/ArrayList" "DEFAULTCAPACITY_EMPTY_ELEMENTDATA" "[Ljava/lang/Object;" ∈ wsL_law) (d : decode cc pc = .ok (.getstatic index, 3)) (k : Go x K nL Q (pc + 3) lv (.ref (xE x) :: st) M) : Go x K nL Q pc lv st M := by
  obtain ⟨p, l, e, R, s, m, args, below, meth, c⟩ := K
  obtain ⟨hx, hb, hml, hown, hts, hlk9⟩ := hC
  intro H locs ls cells slots hl hw
  obtain ⟨cf, kf, fi, f, a, cell, h1, h2, h3, h4, h5, h6, h7, h8⟩ := hw.2.1.2.2.2.2.1.1
  exact W.gets hx hb hown (hts _ hlk) h1 h2 h3 h4 h5 (fun e => by rw [e] at h6; cases h6) h7 rfl d (k H locs ls cells slots hl hw)
/-- the length of an Object[], the shared empty one too -/
def lenE (x : Cx) (M : Mm) (a : Nat) : Int32 := if a = xE x then 0 else nI (mN M a)
theorem go_alenE {a : Nat} (hC : Cb K own cc nL) (hk : a = xE x ∨ mK M a = 11) (d : decode cc pc = .ok (.arraylength, 1)) (k : Go x K nL Q (pc + 1) lv (.int (lenE x M a) :: st) M) : Go x K nL Q pc lv (.ref a :: st) M := by
  by_cases ha : a = xE x
  · obtain ⟨p, l, e, R, s, m, args, below, meth, c⟩ := K
    obtain ⟨hx, hb, hml, hown, hts, hlk9⟩ := hC
    intro H locs ls cells slots hl hw
    obtain ⟨cell, h1, h2, h3, -⟩ := hw.2.1.2.2.2.2.1.2
    have kk := k H locs ls cells slots hl hw
    rw [show lenE x M a = 0 from if_pos ha] at kk
    exact W.alen hx hb (by rw [ha]; exact h1) h2 (by rw [h3]; rfl) rfl rfl d kk
  · rw [show lenE x M a = nI (mN M a) from if_neg ha] at k
    rcases hk with hk | hk
    · exact absurd hk ha
    · exact go_alen hC hk (by decide) d k
theorem go_ldcM {index : Nat} (hC : Cb K own cc nL) (hlk : Cond.classLink own index "[Ljava/lang/Object;" ∈ wsL_law) (d : decode cc pc = .ok (.ldc index, 2)) (k : Go x K nL Q (pc + 2) lv (.ref (xG x) :: st) M) : Go x K nL Q pc lv st M := by
  obtain ⟨p, l, e, R, s, m, args, below, meth, c⟩ := K
  obtain ⟨hx, hb, hml, hown, hts, hlk9⟩ := hC
  intro H locs ls cells slots hl hw
  exact va_ldcM hx hb hown (hts _ hlk) hw.2.1.2.2.2.2.2.1 d (k H locs ls cells slots hl hw)
theorem go_ldcw {i : Nat} {v : Int32} (hC : Cb K own cc nL) (hm : Jvm.Cond.constant own i v ∈ wsL_law) (d : decode cc pc = .ok (.ldc_w i, 3)) (k : Go x K nL Q (pc + 3) lv (.int v :: st) M) : Go x K nL Q pc lv st M := by
  obtain ⟨p, l, e, R, s, m, args, below, meth, c⟩ := K
  obtain ⟨hx, hb, hml, hown, hts, hlk9⟩ := hC
  intro H locs ls cells slots hl hw
  exact lv_ldcw hx hb hown (hts _ hm) d (k H locs ls cells slots hl hw)
/-- an Object[]'s class -/
theorem oarr_go {s : State} {H : Heap} {locs : List Loc} (hw : Wo x M s H locs) {a : Nat} (hk : mK M a = 11 ∨ mK M a = 13) : H[a]? = some (vp_cell (xO x) (mN M a, .inr (.inr (.inr (.inr (mP M a)))))) ∧ s.vm.findClass "[Ljava/lang/Object;" = some (xO x) := by
  refine ⟨?_, va_nmO (C := "java/lang/Object") (hw.2.1.1.2 3 _ rfl).2 (by decide +kernel)⟩
  rcases hk with hk | hk
  · have hP := hw.1.at (a := a) (by rw [hk]; decide)
    rw [mC_11 hk] at hP
    exact hP 0 _ rfl
  · have hP := hw.1.at (a := a) (by rw [hk]; decide)
    rw [mC_13 hk] at hP
    exact hP 0 _ rfl
theorem go_getC {index a : Nat} (hE : Ce x K own cc nL ret0 fr lo nm M0) (hk : mK M a = 11 ∨ mK M a = 13) (hlk : Cond.methodLink own index ⟨"java/lang/Object", "getClass", "()Ljava/lang/Class;"⟩ ∈ wsL_law) (hsel : Cond.selects "[Ljava/lang/Object;" ⟨"java/lang/Object", "getClass", "()Ljava/lang/Class;"⟩ ⟨"java/lang/Object", "getClass", "()Ljava/lang/Class;"⟩ ∈ wsL_law) (hinst : Cond.instanceMethod ⟨"java/lang/Object", "getClass", "()Ljava/lang/Class;"⟩ ∈ wsL_law) (hnat : Cond.native ⟨"java/lang/Object", "getClass", "()Ljava/lang/Class;"⟩ ∈ wsL_law)
    (hfr : 1 ≤ fr) (hlo : 30 ≤ lo) (hcat : (st.map fun v => v.category).sum ≤ 8) (d : decode cc pc = .ok (.invokevirtual index, 3)) (k : Go x K nL Q (pc + 3) lv (.ref (xG x) :: st) M) : Go x K nL Q pc lv (.ref a :: st) M := by
  obtain ⟨p, l, e, R, s, m, args, below, meth, c⟩ := K
  obtain ⟨⟨hx, hb, hml, hown, hts, hlk9⟩, -, hR, h4, h5, h6, h7, -⟩ := hE
  intro H locs ls cells slots hl hw
  have hR' : R = rmF x fr lo M0 := hR
  obtain ⟨g1, g2⟩ := oarr_go hw hk
  refine va_getC hx hb (by rw [hml]; exact hl.1.symm) hown (hts _ hlk) (va_Dc.use hw.2.1.2.2.2.2.2.2.1) (hts _ hsel) (hts _ hinst) (hts _ hnat) hw.2.1.2.2.2.2.2.1 ⟨_, g1, rfl, g2⟩ (by rw [hR']; exact hfr) ?_ d (k H locs ls cells slots hl hw)
  rw [hR']
  show _ ≤ lo
  omega
theorem go_mmax {index : Nat} {a b : Int32} (hE : Ce x K own cc nL ret0 fr lo nm M0) (hlk : Cond.methodLink own index Lib.Math.max.name ∈ wsL_law) (hstat : Cond.static Lib.Math.max.name ∈ wsL_law) (hini : Cond.initialized "java/lang/Math" ∈ wsL_law) (hcode : Cond.code Lib.Math.max.name Lib.Math.max.code 2 (some .int) ∈ wsL_law)
    (hfr : 1 ≤ fr) (hlo : 30 ≤ lo) (hcat : (st.map fun v => v.category).sum ≤ 8) (d : decode cc pc = .ok (.invokestatic index, 3)) (k : Go x K nL Q (pc + 3) lv (.int (if a < b then b else a) :: st) M) : Go x K nL Q pc lv (.int b :: .int a :: st) M := by
  obtain ⟨p, l, e, R, s, m, args, below, meth, c⟩ := K
  obtain ⟨⟨hx, hb, hml, hown, hts, hlk9⟩, -, hR, h4, h5, h6, h7, -⟩ := hE
  intro H locs ls cells slots hl hw
  have hR' : R = rmF x fr lo M0 := hR
  refine W.tight (fun hsl => ?_)
  have hq := room_go (M := M) hR h4 h5 hw hsl
  refine va_mmax hx hb (by rw [hml]; exact hl.1.symm) hown (hts _ hlk) (hts _ hstat) (hts _ hini) (hts _ hcode) (by rw [hR']; exact hfr) ?_ (by omega) (by omega) d (k H locs ls _ _ hl hw)
  rw [hR']
  show _ ≤ lo
  omega
theorem go_mmin {index : Nat} {a b : Int32} (hE : Ce x K own cc nL ret0 fr lo nm M0) (hlk : Cond.methodLink own index Lib.Math.min.name ∈ wsL_law) (hstat : Cond.static Lib.Math.min.name ∈ wsL_law) (hini : Cond.initialized "java/lang/Math" ∈ wsL_law) (hcode : Cond.code Lib.Math.min.name Lib.Math.min.code 2 (some .int) ∈ wsL_law)
    (hfr : 1 ≤ fr) (hlo : 30 ≤ lo) (hcat : (st.map fun v => v.category).sum ≤ 8) (d : decode cc pc = .ok (.invokestatic index, 3)) (k : Go x K nL Q (pc + 3) lv (.int (if b < a then b else a) :: st) M) : Go x K nL Q pc lv (.int b :: .int a :: st) M := by
  obtain ⟨p, l, e, R, s, m, args, below, meth, c⟩ := K
  obtain ⟨⟨hx, hb, hml, hown, hts, hlk9⟩, -, hR, h4, h5, h6, h7, -⟩ := hE
  intro H locs ls cells slots hl hw
  have hR' : R = rmF x fr lo M0 := hR
  refine W.tight (fun hsl => ?_)
  have hq := room_go (M := M) hR h4 h5 hw hsl
  refine va_mmin hx hb (by rw [hml]; exact hl.1.symm) hown (hts _ hlk) (hts _ hstat) (hts _ hini) (hts _ hcode) (by rw [hR']; exact hfr) ?_ (by omega) (by omega) d (k H locs ls _ _ hl hw)
  rw [hR']
  show _ ≤ lo
  omega
/-- behind a new cell -/
theorem wo_new {M' : Mm} {s : State} {H H1 : Heap} {locs : List Loc} {c1 : Cell} {κ n z : Nat} (hw : Wo x M s H locs) (hz : H1.size = H.size + 1) (h1 : H1[H.size]? = some c1) (hc : c1.slots.size = z) (o : ∀ q : Nat, q < H.size → H1[q]? = H[q]?)
    (hM : M' = nO M κ n z) (hk : κ ≠ 13) (hX : mX M + 1 ≤ xC x) (hS : mS M + z ≤ xL x) (ha : va_at (xD x) vwCl (mX M, mC x M' (mX M)) H1) : Wo x M' s H1 locs :=
  ⟨hw.1.new hz h1 hc o hM hk hX hS ha, hw.2.1.kept (fun b hb _ => o b hb), Nat.le_trans hw.2.2.1 (by omega), fun q h1 h2 => (o q (Nat.lt_of_lt_of_le h1 hw.2.2.1)).trans (hw.2.2.2.1 q h1 h2), hw.2.2.2.2⟩
theorem room_new {R : Room} {s : State} {H : Heap} {locs : List Loc} {z : Nat} (hR : R = rmF x fr lo M0) (h4 : s.heap.size = mX M0) (h5 : hs s.heap = mS M0) (hw : Wo x M s H locs) (hsl : hs s.heap ≤ hs H) (hX : mX M + 1 ≤ xC x) (hS : mS M + z ≤ xL x) : (H.size - s.heap.size) + 1 ≤ R.cells ∧ (hs H - hs s.heap) + z ≤ R.slots := by
  obtain ⟨-, g2, g3, g4, g5, -⟩ := hw.1
  have hsz : s.heap.size ≤ H.size := hw.2.2.1
  rw [hR]
  refine ⟨?_, ?_⟩
  · show (H.size - s.heap.size) + 1 ≤ xC x - mX M0
    omega
  · show (hs H - hs s.heap) + z ≤ xL x - mS M0
    omega
theorem go_new {C : String} {T : u_T} {N κ index : Nat} (hE : Ce x K own cc nL ret0 fr lo nm M0) (hO : isO κ = true) (hc : vwCl[oI κ]? = some (C, T, N)) (hin : ∀ w ∈ u_ws C T N, w ∈ wsL_law) (ty0 : Nat → FieldType) (hty : ∀ k, k < N → parseFieldDescriptor (T k).2.2.1 = some (ty0 k)) (hlk : Cond.classLink own index C ∈ wsL_law) (hins : Cond.instantiable C N ∈ wsL_law) (hini : Cond.initialized C ∈ wsL_law)
    (hdf : ∀ j, j < N → defaultValue (ty0 j) = vp_V (mkO (fun _ b => if b = true then .int 0 else .null) 0 (oS κ)) j) (hX : mX M + 1 ≤ xC x) (hS : mS M + N ≤ xL x) (d : decode cc pc = .ok (.new index, 3)) (k : Go x K nL Q (pc + 3) lv (.ref (mX M) :: st) (nO M κ 0 N)) : Go x K nL Q pc lv st M := by
  obtain ⟨p, l, e, R, s, m, args, below, meth, c⟩ := K
  obtain ⟨⟨hx, hb, hml, hown, hts, hlk9⟩, -, hR, h4, h5, h6, h7, -⟩ := hE
  intro H locs ls cells slots hl hw
  refine W.tight (fun hsl => ?_)
  have hq := room_new (z := N) hR h4 h5 hw hsl hX hS
  refine W.newc hx hb hown (hts _ hlk) (hts _ hins) (hts _ hini) rfl d hq.1 hq.2 fun cC kC f1 f2 f3 f4 => ?_
  have hKn := hw.2.1.1.1 (oI κ) _ hc
  cases Option.some.inj (hKn.2.1.symm.trans f1)
  have hHX : H.size = mX M := hw.1.2.1
  have z1 : (H.push (blank (xD x |>.1 (oI κ)) kC)).size = H.size + 1 := Array.size_push ..
  have e1 : (H.push (blank (xD x |>.1 (oI κ)) kC))[H.size]? = some (blank (xD x |>.1 (oI κ)) kC) := Array.getElem?_push_size
  have o1 : ∀ q : Nat, q < H.size → (H.push (blank (xD x |>.1 (oI κ)) kC))[q]? = H[q]? := fun q hq9 => by rw [Array.getElem?_push, if_neg (Nat.ne_of_lt hq9)]
  have hwo : Wo x (nO M κ 0 N) s (H.push (blank (xD x |>.1 (oI κ)) kC)) locs := by
    refine wo_new hw z1 e1 (by simp [blank, f4]) o1 rfl (isO_ne hO).2 hX hS ?_
    have hkk : mK (nO M κ 0 N) (mX M) = κ := by simp [nO, mK, va_up]
    rw [mC_o hkk hO]
    refine ⟨_, hc, ?_⟩
    rw [← hHX]
    refine (u_born ty0 hts hin hKn f2 e1 hty).to fun j hj => ?_
    rw [hdf j hj]
    congr 2
    funext i b
    rw [hHX]
    cases b <;> simp [oG, nO, mV, mP, va_up, va_rf]
  have kk := k _ locs ls (H.size - s.heap.size + 1) (hs H - hs s.heap + N) hl hwo
  rw [← hHX] at kk
  exact kk
theorem go_newP {κ : Nat} {atype : ArrayType} {n : Int32} {t0 : Nat} {cA : ClassId} {a0 : Nat → vp_A} {ty : FieldType} (hE : Ce x K own cc nL ret0 fr lo nm M0) (hty : newarray.typeOf atype = ty) (harr : Cond.arrayClass ty ∈ wsL_law) (ht : (xTy x)[t0]? = some (cA, ty)) (hty2 : ∀ C, ty ≠ .object C) (hκ : κ ≠ 13)
    (hcell : ∀ N : Nat, vp_cell cA (a0 N) = arrV cA N (fun _ => defaultValue ty)) (hmC : ∀ N : Nat, mC x (nO M κ N N) (mX M) = .inl (cA, a0 N)) (hn : ¬ n < 0) (hbytes : n.toNatClampNeg * componentBytes ty ≤ 536870912) (hX : mX M + 1 ≤ xC x) (hS : mS M + n.toNatClampNeg ≤ xL x) (d : decode cc pc = .ok (.newarray atype, 2))
    (k : Go x K nL Q (pc + 2) lv (.ref (mX M) :: st) (nO M κ n.toNatClampNeg n.toNatClampNeg)) : Go x K nL Q pc lv (.int n :: st) M := by
  obtain ⟨p, l, e, R, s, m, args, below, meth, c⟩ := K
  obtain ⟨⟨hx, hb, hml, hown, hts, hlk9⟩, -, hR, h4, h5, h6, h7, -⟩ := hE
  subst hty
  intro H locs ls cells slots hl hw
  refine W.tight (fun hsl => ?_)
  have hq := room_new (z := n.toNatClampNeg) hR h4 h5 hw hsl hX hS
  have hHX : H.size = mX M := hw.1.2.1
  refine va_newaK hx hb (hts _ harr) rfl d rfl hn rfl hbytes hq.1 hq.2 hHX fun H1 cB e1 z1 o1 hAr hNm => ?_
  have hcB : cB = cA := by
    have h9 := (hw.2.1.1.2 t0 _ ht).2
    have h10 : s.vm.findClass ("[" ++ (newarray.typeOf atype).toString) = some cA := by
      cases atype <;> exact h9
    exact Option.some.inj (hNm.symm.trans h10)
  subst hcB
  refine k _ locs ls _ _ hl (wo_new hw (by rw [z1, hHX]) (by rw [hHX]; exact e1) (arrV_size ..) (fun q h => o1 q (by rw [← hHX]; exact h)) rfl hκ hX hS ?_)
  rw [hmC]
  show H1[mX M]? = some (vp_cell cB (a0 n.toNatClampNeg))
  rw [hcell]
  exact e1
theorem go_newI {n : Int32} (hE : Ce x K own cc nL ret0 fr lo nm M0) (harr : Cond.arrayClass .int ∈ wsL_law) (hn : ¬ n < 0) (hbytes : n.toNatClampNeg * 4 ≤ 536870912) (hX : mX M + 1 ≤ xC x) (hS : mS M + n.toNatClampNeg ≤ xL x) (d : decode cc pc = .ok (.newarray .int, 2))
    (k : Go x K nL Q (pc + 2) lv (.ref (mX M) :: st) (nO M 8 n.toNatClampNeg n.toNatClampNeg)) : Go x K nL Q pc lv (.int n :: st) M :=
  go_newP (atype := .int) (κ := 8) (t0 := 0) (a0 := fun N => (N, .inl (fun _ => 0))) hE rfl harr rfl (fun C h => by cases h) (by decide) (fun N => rfl) (fun N => by rw [mC_8 (by simp [nO, mK, va_up])]; simp [nO, mN, mV, va_up]) hn hbytes hX hS d k
theorem go_newZ {n : Int32} (hE : Ce x K own cc nL ret0 fr lo nm M0) (harr : Cond.arrayClass .boolean ∈ wsL_law) (hn : ¬ n < 0) (hbytes : n.toNatClampNeg * 1 ≤ 536870912) (hX : mX M + 1 ≤ xC x) (hS : mS M + n.toNatClampNeg ≤ xL x) (d : decode cc pc = .ok (.newarray .boolean, 2))
    (k : Go x K nL Q (pc + 2) lv (.ref (mX M) :: st) (nO M 9 n.toNatClampNeg n.toNatClampNeg)) : Go x K nL Q pc lv (.int n :: st) M :=
  go_newP (atype := .boolean) (κ := 9) (t0 := 1) (a0 := fun N => (N, .inl (fun _ => 0))) hE rfl harr rfl (fun C h => by cases h) (by decide) (fun N => rfl) (fun N => by rw [mC_9 (by simp [nO, mK, va_up])]; simp [nO, mN, mV, va_up]) hn hbytes hX hS d k
theorem go_newJ {n : Int32} (hE : Ce x K own cc nL ret0 fr lo nm M0) (harr : Cond.arrayClass .long ∈ wsL_law) (hn : ¬ n < 0) (hbytes : n.toNatClampNeg * 8 ≤ 536870912) (hX : mX M + 1 ≤ xC x) (hS : mS M + n.toNatClampNeg ≤ xL x) (d : decode cc pc = .ok (.newarray .long, 2))
    (k : Go x K nL Q (pc + 2) lv (.ref (mX M) :: st) (nO M 12 n.toNatClampNeg n.toNatClampNeg)) : Go x K nL Q pc lv (.int n :: st) M :=
  go_newP (atype := .long) (κ := 12) (t0 := 4) (a0 := fun N => (N, .inr (.inl (fun _ => 0)))) hE rfl harr rfl (fun C h => by cases h) (by decide) (fun N => rfl) (fun N => by rw [mC_12 (by simp [nO, mK, va_up])]; simp [nO, mN, mJ, va_up]) hn hbytes hX hS d k
end Rows3
