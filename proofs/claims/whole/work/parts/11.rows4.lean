/-! arrays of references: made, stored to, copied -/
section Rows4
variable {x : Cx} {K : Ct} {own : String} {cc : ByteArray} {nL pc fr lo : Nat} {ret0 : Option FieldType} {nm : String} {Q : State → Prop} {lv : List (Nat × Value)} {st : List Value} {M M0 : Mm}
theorem go_anew {κ : Nat} {C : String} {n : Int32} {t0 index : Nat} {cA : ClassId} (hE : Ce x K own cc nL ret0 fr lo nm M0) (hlk : Cond.classLink own index C ∈ wsL_law) (hover : ∀ s H, Zs x s H → va_AO C s) (ht : (xTy x)[t0]? = some (cA, .object C)) (hκ : κ ≠ 13)
    (hmC : ∀ N : Nat, mC x (nO M κ N N) (mX M) = .inl (cA, N, .inr (.inr (.inr (.inr (fun _ => none)))))) (hn : ¬ n < 0) (hbytes : n.toNatClampNeg * 4 ≤ 536870912) (hX : mX M + 1 ≤ xC x) (hS : mS M + n.toNatClampNeg ≤ xL x) (d : decode cc pc = .ok (.anewarray index, 3))
    (k : Go x K nL Q (pc + 3) lv (.ref (mX M) :: st) (nO M κ n.toNatClampNeg n.toNatClampNeg)) : Go x K nL Q pc lv (.int n :: st) M := by
  obtain ⟨p, l, e, R, s, m, args, below, meth, c⟩ := K
  obtain ⟨⟨hx, hb, hml, hown, hts, hlk9⟩, -, hR, h4, h5, h6, h7, -⟩ := hE
  intro H locs ls cells slots hl hw
  refine W.tight (fun hsl => ?_)
  have hq := room_new (z := n.toNatClampNeg) hR h4 h5 hw hsl hX hS
  have hHX : H.size = mX M := hw.1.2.1
  refine W.anew hx hb hown (hts _ hlk) (va_AO.use (hover _ _ hw.2.1)) rfl d rfl hn hbytes hq.1 hq.2 fun cB kA comp f1 f2 f3 f4 => ?_
  have hcB : cB = cA := by
    obtain ⟨kA9, comp9, r1, r2, r3, r4⟩ := (hw.2.1.1.2 t0 _ ht).2
    exact Option.some.inj (f1.symm.trans r4)
  subst hcB
  generalize hH1 : H.push ({ cls := cB, slots := Array.replicate n.toNatClampNeg .null, vm := .none } : Cell) = H1
  have z1 : H1.size = H.size + 1 := by rw [← hH1, Array.size_push]
  have e1 : H1[H.size]? = some (arrV cB n.toNatClampNeg (fun _ => .null)) := by rw [← hH1, Array.getElem?_push_size, ← arrV_new]
  have o1 : ∀ q : Nat, q < H.size → H1[q]? = H[q]? := fun q hq => by rw [← hH1, Array.getElem?_push, if_neg (Nat.ne_of_lt hq)]
  have hwo : Wo x (nO M κ n.toNatClampNeg n.toNatClampNeg) s H1 locs := by
    refine wo_new hw z1 e1 (arrV_size ..) o1 rfl hκ hX hS ?_
    rw [hmC]
    show H1[mX M]? = some (vp_cell cB (n.toNatClampNeg, .inr (.inr (.inr (.inr (fun _ => none))))))
    rw [vp_cell_q, ← hHX]
    exact e1
  have kk := k H1 locs ls (H.size - s.heap.size + 1) (hs H - hs s.heap + n.toNatClampNeg) hl hwo
  rw [← hHX] at kk
  exact kk
theorem go_anewT {n : Int32} {index : Nat} (hE : Ce x K own cc nL ret0 fr lo nm M0) (hlk : Cond.classLink own index "SnapSites$Site" ∈ wsL_law) (hn : ¬ n < 0) (hbytes : n.toNatClampNeg * 4 ≤ 536870912) (hX : mX M + 1 ≤ xC x) (hS : mS M + n.toNatClampNeg ≤ xL x) (d : decode cc pc = .ok (.anewarray index, 3))
    (k : Go x K nL Q (pc + 3) lv (.ref (mX M) :: st) (nO M 10 n.toNatClampNeg n.toNatClampNeg)) : Go x K nL Q pc lv (.int n :: st) M :=
  go_anew (κ := 10) (t0 := 2) hE hlk (fun s H h => h.2.2.2.2.2.2.2.2.1) rfl (by decide) (fun N => by rw [mC_10 (by simp [nO, mK, va_up])]; simp [nO, mN, mP, va_up]) hn hbytes hX hS d k
theorem go_anewO {n : Int32} {index : Nat} (hE : Ce x K own cc nL ret0 fr lo nm M0) (hlk : Cond.classLink own index "java/lang/Object" ∈ wsL_law) (hn : ¬ n < 0) (hbytes : n.toNatClampNeg * 4 ≤ 536870912) (hX : mX M + 1 ≤ xC x) (hS : mS M + n.toNatClampNeg ≤ xL x) (d : decode cc pc = .ok (.anewarray index, 3))
    (k : Go x K nL Q (pc + 3) lv (.ref (mX M) :: st) (nO M 11 n.toNatClampNeg n.toNatClampNeg)) : Go x K nL Q pc lv (.int n :: st) M :=
  go_anew (κ := 11) (t0 := 3) hE hlk (fun s H h => h.2.2.2.2.2.2.2.1) rfl (by decide) (fun N => by rw [mC_11 (by simp [nO, mK, va_up])]; simp [nO, mN, mP, va_up]) hn hbytes hX hS d k
/-- a store of v at place j of an array of references -/
theorem wo_ast {s : State} {H H1 : Heap} {locs : List Loc} {a j κ : Nat} {cA : ClassId} {v : Option Nat} (hw : Wo x M s H locs) (hk : mK M a = κ) (hκ0 : κ ≠ 0) (hκ : κ ≠ 13) (hmC : ∀ M' : Mm, mK M' a = κ → mC x M' a = .inl (cA, mN M' a, .inr (.inr (.inr (.inr (mP M' a)))))) (hc : H[a]? = some (vp_cell cA (mN M a, .inr (.inr (.inr (.inr (mP M a)))))))
    (e1 : H1[a]? = some ((vp_cell cA (mN M a, .inr (.inr (.inr (.inr (mP M a)))))).setSlot j (va_rf v))) (z : H1.size = H.size) (oq : ∀ q, q ≠ a → H1[q]? = H[q]?) : Wo x (sP M a j v) s H1 (locs ++ [⟨a, j⟩]) := by
  refine go_arst (M' := sP M a j v) hw ((hw.1.1 a (by rw [hk]; exact hκ0)).2 (by rw [hk]; exact hκ)) hc rfl rfl rfl (fun b h => mC_sP h) H1 e1 z oq ?_
  rw [hmC (sP M a j v) hk]
  show H1[a]? = some (vp_cell _ _)
  rw [e1, vp_cell_q, vp_cell_q, arrV_store]
  congr 2
  funext q
  by_cases hq : q = j
  · subst hq
    simp [updV, sP, mP, va_up]
  · simp [updV, sP, mP, va_up, hq]
theorem go_aastX {a b κ t0 : Nat} {i : Int32} {E : String} {cA : ClassId} (hC : Cb K own cc nL) (hk : mK M a = κ) (hκ0 : κ ≠ 0) (hκ : κ ≠ 13) (hmC : ∀ M' : Mm, mK M' a = κ → mC x M' a = .inl (cA, mN M' a, .inr (.inr (.inr (.inr (mP M' a)))))) (ht : (xTy x)[t0]? = some (cA, .object E)) (hany : ∀ s H locs, Wo x M s H locs → va_Any E s H b) (hin : ¬ (i < 0 ∨ mN M a ≤ i.toNatClampNeg))
    (d : decode cc pc = .ok (.aastore, 1)) (k : Go x K nL Q (pc + 1) lv st (sP M a i.toNatClampNeg (some b))) : Go x K nL Q pc lv (.ref b :: .int i :: .ref a :: st) M := by
  obtain ⟨p, l, e, R, s, m, args, below, meth, c⟩ := K
  obtain ⟨hx, hb, hml, hown, hts, hlk9⟩ := hC
  intro H locs ls cells slots hl hw
  have hP := hw.1.at (a := a) (by rw [hk]; exact hκ0)
  rw [hmC M hk] at hP
  have hc : H[a]? = some (vp_cell cA (mN M a, .inr (.inr (.inr (.inr (mP M a)))))) := hP 0 _ rfl
  have hlt : i.toNatClampNeg < mN M a := Nat.not_le.mp fun q => hin (Or.inr q)
  obtain ⟨cellV, g1, g3, ⟨kC, hkC⟩, hasg⟩ := hany _ _ _ hw
  obtain ⟨kA, comp, k1, k2, k3, -⟩ := (hw.2.1.1.2 t0 _ ht).2
  obtain ⟨kE, hkE, -⟩ := Vm.findClass_spec k3
  refine W.aast hx hb hc (fun q h => by cases h) (fun h => by cases h) k1 k2 rfl hkE ⟨fun q => hin (Or.inl q), by show _ < (arrV _ _ _).slots.size; rw [arrV_size]; exact hlt⟩ g1 (fun q h => by rw [h] at g3; cases g3) hkC (hasg _ k3) rfl rfl d fun H1 e1 z oq => ?_
  exact k H1 _ ls cells slots hl (wo_ast (v := some b) hw hk hκ0 hκ hmC hc e1 z oq)
theorem go_aastO {a b : Nat} {i : Int32} (hC : Cb K own cc nL) (hk : mK M a = 11) (hb : mK M b = 2 ∨ mK M b = 4) (hin : ¬ (i < 0 ∨ mN M a ≤ i.toNatClampNeg)) (d : decode cc pc = .ok (.aastore, 1)) (k : Go x K nL Q (pc + 1) lv st (sP M a i.toNatClampNeg (some b))) : Go x K nL Q pc lv (.ref b :: .int i :: .ref a :: st) M :=
  go_aastX (t0 := 3) hC hk (by decide) (by decide) (fun M' h => mC_11 h) rfl (fun s H locs hw => any_go hw hb) hin d k
theorem go_aastT {a b : Nat} {i : Int32} (hC : Cb K own cc nL) (hk : mK M a = 10) (hb : mK M b = 3) (hin : ¬ (i < 0 ∨ mN M a ≤ i.toNatClampNeg)) (d : decode cc pc = .ok (.aastore, 1)) (k : Go x K nL Q (pc + 1) lv st (sP M a i.toNatClampNeg (some b))) : Go x K nL Q pc lv (.ref b :: .int i :: .ref a :: st) M :=
  go_aastX (t0 := 2) hC hk (by decide) (by decide) (fun M' h => mC_10 h) rfl (fun s H locs hw => by
    have hP := hw.1.at (a := b) (by rw [hb]; decide)
    rw [mC_o hb rfl] at hP
    refine va_rAny (q0 := 0) (ci := 3) hw.2.1.1 hP rfl (r := (RX2, TX2, 5)) rfl fun comp c0 h1 h2 => ?_
    cases Option.some.inj (h1.symm.trans h2)
    have hca := (hw.2.1.1.1 3 (RX2, TX2, 5) rfl).2
    cases Option.some.inj (h1.symm.trans hca.1)
    exact va_assign hca) hin d k
theorem go_aastN {a : Nat} {i : Int32} (hC : Cb K own cc nL) (hk : mK M a = 11) (hin : ¬ (i < 0 ∨ mN M a ≤ i.toNatClampNeg)) (d : decode cc pc = .ok (.aastore, 1)) (k : Go x K nL Q (pc + 1) lv st (sP M a i.toNatClampNeg none)) : Go x K nL Q pc lv (.null :: .int i :: .ref a :: st) M := by
  obtain ⟨p, l, e, R, s, m, args, below, meth, c⟩ := K
  obtain ⟨hx, hb, hml, hown, hts, hlk9⟩ := hC
  intro H locs ls cells slots hl hw
  have hP := hw.1.at (a := a) (by rw [hk]; decide)
  rw [mC_11 hk] at hP
  have hc : H[a]? = some (vp_cell (xO x) (mN M a, .inr (.inr (.inr (.inr (mP M a)))))) := hP 0 _ rfl
  refine va_WaastN (C := "java/lang/Object") hx hb hc ((hw.2.1.1.2 3 _ rfl).1 (mN M a) (fun j => va_rf (mP M a j))) (fun h => by cases h) (by show ¬ (i < 0 ∨ (arrV _ _ _).slots.size ≤ _); rw [arrV_size]; exact hin) rfl rfl d fun H1 e1 z oq => ?_
  exact k H1 _ ls cells slots hl (wo_ast (v := none) hw hk (by decide) (by decide) (fun M' h => mC_11 h) hc e1 z oq)
/-- System.arraycopy between Object[]s -/
theorem go_acopy {index a0 a : Nat} {sp dp n : Int32} (hE : Ce x K own cc nL ret0 fr lo nm M0) (hlk : Cond.methodLink own index arraycopyName ∈ wsL_law) (hnat : Cond.native arraycopyName ∈ wsL_law) (hstat : Cond.static arraycopyName ∈ wsL_law) (hini : Cond.initialized "java/lang/System" ∈ wsL_law)
    (hk0 : mK M a0 = 11 ∨ mK M a0 = 13) (hk : mK M a = 11) (h1 : ¬ sp < 0) (h2 : ¬ dp < 0) (h3 : ¬ n < 0) (h4 : sp.toNatClampNeg + n.toNatClampNeg ≤ mN M a0) (h5 : dp.toNatClampNeg + n.toNatClampNeg ≤ mN M a) (hel : okE M a0 sp.toNatClampNeg n.toNatClampNeg = true)
    (hfr : 1 ≤ fr) (hlo : 40 ≤ lo) (hcat : (st.map fun v => v.category).sum ≤ 8) (d : decode cc pc = .ok (.invokestatic index, 3)) (k : Go x K nL Q (pc + 3) lv st (sR M a (va_cpy (mP M a0) (mP M a) sp.toNatClampNeg dp.toNatClampNeg n.toNatClampNeg))) : Go x K nL Q pc lv (.int n :: .int dp :: .ref a :: .int sp :: .ref a0 :: st) M := by
  obtain ⟨p, l, e, R, s, m, args, below, meth, c⟩ := K
  obtain ⟨⟨hx, hb, hml, hown, hts, hlk9⟩, -, hR, h46, h56, h6, h7, -⟩ := hE
  intro H locs ls cells slots hl hw
  have hR' : R = rmF x fr lo M0 := hR
  have nn : ∀ z : Int32, ¬ z < 0 → z.toInt = (z.toNatClampNeg : Int) := by
    intro z hz
    have hz0 : (0 : Int) ≤ z.toInt := by
      have := Int32.not_lt.mp hz
      simpa using Int32.le_iff_toInt_le.mp this
    show z.toInt = ((z.toInt.toNat : Nat) : Int)
    omega
  have hA : xA x a := (hw.1.1 a (by rw [hk]; decide)).2 (by rw [hk]; decide)
  have hc0 := (oarr_go hw hk0).1
  have hc1 := (oarr_go hw (Or.inl hk)).1
  obtain ⟨kA, comp, r1, r2, r3, -⟩ := (hw.2.1.1.2 3 _ rfl).2
  intro T hT X
  obtain ⟨vm', X', step⟩ := X.arraycopy hx hown (hts _ hlk) (hts _ hnat) (hts _ hstat) (hts _ hini) (src := a0) (dst := a) (cs := vp_cell (xO x) (mN M a0, .inr (.inr (.inr (.inr (mP M a0)))))) (cd := vp_cell (xO x) (mN M a, .inr (.inr (.inr (.inr (mP M a)))))) (srcPos := sp) (destPos := dp) (n := n) (by rw [hT]; exact hc0) (by rw [hT]; exact hc1)
    (fun _ h => by cases h) (fun _ h => by cases h) (fun h => by cases h) (fun h => by cases h) r1 r1 r2 r2 rfl h1 h2 h3
    (by rw [nn sp h1, nn n h3]; show ¬ _ > ((arrV (xO x) (mN M a0) (fun j => va_rf (mP M a0 j))).slots.size : Int); rw [arrV_size]; omega)
    (by rw [nn dp h2, nn n h3]; show ¬ _ > ((arrV (xO x) (mN M a) (fun j => va_rf (mP M a j))).slots.size : Int); rw [arrV_size]; omega)
    (fun vm₁ hal i hi => by
      have e9 : (vp_cell (xO x) (mN M a0, .inr (.inr (.inr (.inr (mP M a0)))))).slots.getD (sp.toNatClampNeg + i) .null = va_rf (mP M a0 (sp.toNatClampNeg + i)) := by
        show (arrV (xO x) (mN M a0) (fun j => va_rf (mP M a0 j))).slots.getD _ _ = _
        rw [Array.getD_eq_getD_getElem?, arrV_read _ _ (by omega)]
        rfl
      rw [e9]
      cases hy : mP M a0 (sp.toNatClampNeg + i) with
      | none => exact ⟨rfl, trivial⟩
      | some y =>
        obtain ⟨cellV, g1, g2, ⟨kC, hkC⟩, hasg⟩ := any_go hw (okE_at hel hi hy)
        obtain ⟨kE, hkE, -⟩ := Vm.findClass_spec r3
        obtain ⟨kC', hkC', -⟩ := hal.2.2 _ _ hkC
        obtain ⟨kE', hkE', -⟩ := hal.2.2 _ _ hkE
        refine ⟨rfl, cellV, (show T.heap[y]? = some cellV by rw [hT]; exact g1), (fun q h => by rw [h] at g2; cases g2), ⟨kC', hkC'⟩, ⟨kE', hkE'⟩, ?_⟩
        show vm₁.assignable _ _ = true
        rw [hal.assignable]
        exact hasg _ r3)
    (g := F0 m pc ls (.int n :: .int dp :: .ref a :: .int sp :: .ref a0 :: st)) rfl (by rw [hml]; exact hl.1) (rest := st) rfl (by rw [hb]; exact d) (by rw [hR']; exact hfr) (by
      rw [hR']
      show 2 * 0 + _ + _ ≤ lo
      have hw9 : nativeFrameWords "java/lang/System" "arraycopy" 5 ≤ 20 := (by decide +kernel)
      omega)
  have e1 : copied (vp_cell (xO x) (mN M a0, .inr (.inr (.inr (.inr (mP M a0)))))) (vp_cell (xO x) (mN M a, .inr (.inr (.inr (.inr (mP M a)))))) sp dp n = vp_cell (xO x) (mN M a, .inr (.inr (.inr (.inr (va_cpy (mP M a0) (mP M a) sp.toNatClampNeg dp.toNatClampNeg n.toNatClampNeg))))) := by
    rw [vp_cell_q, vp_cell_q, vp_cell_q]
    exact va_copied (fun z => va_rf z) (xO x) (xO x) (mP M a0) (mP M a) h4
  rw [e1] at X' step
  have hla : a < H.size := (Array.getElem?_eq_some_iff.mp hc1).1
  generalize hcN : vp_cell (xO x) (mN M a, .inr (.inr (.inr (.inr (va_cpy (mP M a0) (mP M a) sp.toNatClampNeg dp.toNatClampNeg n.toNatClampNeg))))) = cN at X' step
  have hheap : ((T.setVm vm').setCell a cN).heap = H.setIfInBounds a cN := by rw [← hT]; rfl
  have oq : ∀ q : Nat, q ≠ a → (H.setIfInBounds a cN)[q]? = H[q]? := fun q hq => by simp [Array.getElem?_setIfInBounds, Ne.symm hq]
  have ea : (H.setIfInBounds a cN)[a]? = some cN := by simp [Array.getElem?_setIfInBounds, hla]
  have hwo : Wo x (sR M a (va_cpy (mP M a0) (mP M a) sp.toNatClampNeg dp.toNatClampNeg n.toNatClampNeg)) s (H.setIfInBounds a cN) (locs ++ ((vp_cell (xO x) (mN M a0, .inr (.inr (.inr (.inr (mP M a0)))))).stretch sp.toNatClampNeg n.toNatClampNeg).zipIdx.map fun q => ⟨a, dp.toNatClampNeg + q.2⟩) := by
    refine ⟨hw.1.set (by simp) hc1 ea ?_ oq rfl rfl rfl (fun b h => mC_sR h) ?_, hw.2.1.kept (fun b _ hb9 => oq b (fun z => hb9 (by rw [z]; exact hA))), by simp; exact hw.2.2.1, fun q g1 g2 => ?_, fun q hq => ?_⟩
    · rw [← hcN, vp_cell_q, vp_cell_q, arrV_size, arrV_size]
    · rw [mC_11 (show mK (sR M a _) a = 11 from hk)]
      show (H.setIfInBounds a cN)[a]? = some (vp_cell _ _)
      rw [ea, ← hcN]
      simp [sR, mN, mP, va_up]
    · rw [oq q (fun z => g2 (by rw [z]; exact hA))]
      exact hw.2.2.2.1 q g1 g2
    · rcases List.mem_append.mp hq with h | h
      · exact hw.2.2.2.2 q h
      · obtain ⟨z, -, hz⟩ := List.mem_map.mp h
        rw [← hz]
        exact hA
  obtain ⟨t, a1, b1⟩ := k _ _ ls cells slots hl hwo _ hheap X'
  exact ⟨t, step t a1, b1⟩
end Rows4
