/-! the rows that read and write the heap -/
theorem isO_ne {k : Nat} (h : isO k = true) : k ≠ 0 ∧ k ≠ 13 := by
  have h7 : 1 ≤ k ∧ k ≤ 7 := by simpa [isO] using h
  omega
section HeapRows
variable {x : Cx} {K : Ct} {own : String} {cc : ByteArray} {nL pc : Nat} {Q : State → Prop} {lv : List (Nat × Value)} {st : List Value} {M : Mm}
theorem go_get {ref C : String} {T : u_T} {N κ i index a : Nat} {v : Value} (hC : Cb K own cc nL) (hk : mK M a = κ) (hO : isO κ = true) (hc : vwCl[oI κ]? = some (C, T, N)) (hin : ∀ w ∈ u_ws C T N, w ∈ wsL_law) (hi : i < N) (hlk : Cond.fieldLink own index ref (T i).2.1 (T i).2.2.1 ∈ wsL_law)
    (hr : (T i).1 = ref ∨ Cond.sameField ref (T i).1 (T i).2.1 (T i).2.2.1 ∈ wsL_law) (hv : (mkO (oG M a) 0 (oS κ))[i]? = some v) (d : decode cc pc = .ok (.getfield index, 3)) (k : Go x K nL Q (pc + 3) lv (v :: st) M) : Go x K nL Q pc lv (.ref a :: st) M := by
  obtain ⟨p, l, e, R, s, m, args, below, meth, c⟩ := K
  obtain ⟨hx, hb, hml, hown, hts, hlk9⟩ := hC
  intro H locs ls cells slots hl hw
  have hP := hw.1.at (a := a) (by rw [hk]; exact (isO_ne hO).1)
  rw [mC_o hk hO] at hP
  refine va_get (D := xD x) (cl := vwCl) hx hb hts hin hown hw.2.1.1 hP 0 rfl hc i hi (hts _ hlk) ?_ hv d (k H locs ls cells slots hl hw)
  intro y hy
  rcases hr with hr | hr
  · rw [← hr]; exact hy
  · exact u_same (hts _ hr) y hy
theorem go_getV {ref C : String} {T : u_T} {N κ index a : Nat} (i : Nat) (hC : Cb K own cc nL) (hk : mK M a = κ) (hO : isO κ = true) (hb : (oS κ)[i]? = some true) (hc : vwCl[oI κ]? = some (C, T, N)) (hin : ∀ w ∈ u_ws C T N, w ∈ wsL_law) (hi : i < N) (hlk : Cond.fieldLink own index ref (T i).2.1 (T i).2.2.1 ∈ wsL_law)
    (hr : (T i).1 = ref ∨ Cond.sameField ref (T i).1 (T i).2.1 (T i).2.2.1 ∈ wsL_law) (d : decode cc pc = .ok (.getfield index, 3)) (k : Go x K nL Q (pc + 3) lv (.int (mV M a i) :: st) M) : Go x K nL Q pc lv (.ref a :: st) M :=
  go_get hC hk hO hc hin hi hlk hr (by rw [mkO_get, hb]; simp [oG]) d k
theorem go_getR {ref C : String} {T : u_T} {N κ index a b : Nat} (i : Nat) (hC : Cb K own cc nL) (hk : mK M a = κ) (hO : isO κ = true) (hb : (oS κ)[i]? = some false) (hp : mP M a i = some b) (hc : vwCl[oI κ]? = some (C, T, N)) (hin : ∀ w ∈ u_ws C T N, w ∈ wsL_law) (hi : i < N) (hlk : Cond.fieldLink own index ref (T i).2.1 (T i).2.2.1 ∈ wsL_law)
    (hr : (T i).1 = ref ∨ Cond.sameField ref (T i).1 (T i).2.1 (T i).2.2.1 ∈ wsL_law) (d : decode cc pc = .ok (.getfield index, 3)) (k : Go x K nL Q (pc + 3) lv (.ref b :: st) M) : Go x K nL Q pc lv (.ref a :: st) M :=
  go_get hC hk hO hc hin hi hlk hr (by rw [mkO_get, hb]; simp [oG, hp, va_rf]) d k
theorem go_put {ref C : String} {T : u_T} {N κ i index a : Nat} {v : Value} {M' : Mm} {ty : FieldType} (hC : Cb K own cc nL) (hk : mK M a = κ) (hO : isO κ = true) (hc : vwCl[oI κ]? = some (C, T, N)) (hin : ∀ w ∈ u_ws C T N, w ∈ wsL_law) (ty0 : Nat → FieldType) (hty : ∀ k, k < N → parseFieldDescriptor (T k).2.2.1 = some (ty0 k)) (hnm : ∀ a, a < N → ∀ b, b < N → a ≠ b → (T a).2.1 ≠ (T b).2.1) (hi : i < N) (hlk : Cond.fieldLink own index ref (T i).2.1 (T i).2.2.1 ∈ wsL_law)
    (hr : (T i).1 = ref ∨ Cond.sameField ref (T i).1 (T i).2.1 (T i).2.2.1 ∈ wsL_law) (hfin : (T i).2.2.2 = false ∨ ((T i).2.2.2 = true ∧ (T i).1 = own ∧ K.2.2.2.2.2.2.2.2.1.name = "<init>")) (hd : parseFieldDescriptor (T i).2.2.1 = some ty) (hn : narrow ty v = v) (hfit : fits ty v = true) (hlen : i < (oS κ).length)
    (hK' : mK M' = mK M) (hX' : mX M' = mX M) (hS' : mS M' = mS M) (hC' : ∀ b, b ≠ a → mC x M' b = mC x M b) (hE' : mkO (oG M' a) 0 (oS κ) = (mkO (oG M a) 0 (oS κ)).set i v)
    (d : decode cc pc = .ok (.putfield index, 3)) (k : Go x K nL Q (pc + 3) lv st M') : Go x K nL Q pc lv (v :: .ref a :: st) M := by
  obtain ⟨p, l, e, R, s, m, args, below, meth, c⟩ := K
  obtain ⟨hx, hb, hml, hown, hts, hlk9⟩ := hC
  intro H locs ls cells slots hl hw
  have hne := isO_ne hO
  have hP := hw.1.at (a := a) (by rw [hk]; exact hne.1)
  rw [mC_o hk hO] at hP
  have hKK : va_K (xD x) vwCl (xTy x) s := hw.2.1.1
  have hap := va_apart (own := own) hts hin ty0 hty hnm hKK hc
  obtain ⟨r, h1, cell, q1, q2, q3, q4⟩ := hP 0 _ rfl
  have hr9 : r = (C, T, N) := Option.some.inj (h1.symm.trans hc)
  subst hr9
  obtain ⟨hS, hfc, kC, hkC, hkind⟩ := hKK.1 (oI κ) _ hc
  obtain ⟨cf, kf, fi, f, hfi, hsl⟩ := hS i hi
  have hsame : s.fieldFound? ref (T i).2.1 (T i).2.2.1 = some (cf, kf, fi, f) := by
    rcases hr with hr | hr
    · rw [← hr]; exact hfi
    · exact u_same (hts _ hr) _ hfi
  have hst := (u_facts hfc hkC (u_lays hts hin hi) hfi).1
  have hA : xA x a := (hw.1.1 a (by rw [hk]; exact hne.1)).2 (by rw [hk]; exact hne.2)
  have goal : ∀ H' : Heap, H'[a]? = some (cell.setSlot f.slot v) → H'.size = H.size → (∀ q, q ≠ a → H'[q]? = H[q]?) → W p l e R s m args below meth c H' (locs ++ [⟨a, f.slot⟩]) cells slots Q (F0 m (pc + 3) ls st) := by
    intro H' e1 e2 e3
    refine k H' _ ls cells slots hl ⟨hw.1.set e2 q1 e1 (k2_slotsz _ _ _) e3 hK' hX' hS' hC' ?_, hw.2.1.kept (fun b _ hb9 => e3 b (fun z => hb9 (by rw [z]; exact hA))), hw.2.2.put e2 e3 hA⟩
    rw [mC_o (by rw [hK']; exact hk) hO, hE']
    rw [hsl] at e1
    exact ⟨_, hc, t_OB.to (V := updV (vp_V (mkO (oG M a) 0 (oS κ))) i v) ⟨_, e1, q2, q3, t_set q4 hap hi v⟩ (fun j _ => vp_updV_set (by rw [mkO_len]; exact hlen) v j)⟩
  rcases hfin with hfin | ⟨hfin, hdecl, hin2⟩
  · have hlay := hts _ (hin _ (u_in_lay hi))
    unfold u_lay at hlay
    rw [if_neg (by rw [hfin]; decide)] at hlay
    have h6 := u_store hfc hkC hkind hlay hfi hd hn hfit
    exact W.putK hx hb (f := f) ⟨hown, hts _ hlk, ⟨_, _, _, hsame⟩, hst⟩ (by rw [q2]; exact h6) q1 q3 (by rw [hsl]; exact k2_hasslot (q4 i hi)) rfl rfl d goal
  · have hlay := hts _ (hin _ (u_in_lay hi))
    unfold u_lay at hlay
    rw [if_pos hfin] at hlay
    have hcf : m.cls = cf := by
      obtain ⟨_, _, c', _, _, _, -, -, hf', -, -, -, hown2, -⟩ := Cond.laysFinal_spec hlay
      have e1 : c' = cf := by have := hfi.symm.trans hf'; simp at this; exact this.1.symm
      rw [hdecl] at hown2
      rw [← e1]; exact Option.some.inj (hown.symm.trans hown2)
    have h6 := u_fits hfc hkC hkind (Or.inr hlay) hfi hd hn hfit
    exact W.putFinK hx hb hown (hts _ hlk) hsame hst hcf hin2 (by rw [q2]; exact h6) q1 q3 (by rw [hsl]; exact k2_hasslot (q4 i hi)) rfl rfl d goal
theorem go_putV {ref C : String} {T : u_T} {N κ index a : Nat} {v : Int32} {ty : FieldType} (i : Nat) (hC : Cb K own cc nL) (hk : mK M a = κ) (hO : isO κ = true) (hb : (oS κ)[i]? = some true) (hc : vwCl[oI κ]? = some (C, T, N)) (hin : ∀ w ∈ u_ws C T N, w ∈ wsL_law) (ty0 : Nat → FieldType) (hty : ∀ k, k < N → parseFieldDescriptor (T k).2.2.1 = some (ty0 k)) (hnm : ∀ a, a < N → ∀ b, b < N → a ≠ b → (T a).2.1 ≠ (T b).2.1) (hi : i < N) (hlk : Cond.fieldLink own index ref (T i).2.1 (T i).2.2.1 ∈ wsL_law)
    (hr : (T i).1 = ref ∨ Cond.sameField ref (T i).1 (T i).2.1 (T i).2.2.1 ∈ wsL_law) (hfin : (T i).2.2.2 = false ∨ ((T i).2.2.2 = true ∧ (T i).1 = own ∧ K.2.2.2.2.2.2.2.2.1.name = "<init>")) (hd : parseFieldDescriptor (T i).2.2.1 = some ty) (hn : narrow ty (.int v) = .int v) (hfit : fits ty (.int v) = true)
    (d : decode cc pc = .ok (.putfield index, 3)) (k : Go x K nL Q (pc + 3) lv st (sV M a i v)) : Go x K nL Q pc lv (.int v :: .ref a :: st) M :=
  go_put (M' := sV M a i v) hC hk hO hc hin ty0 hty hnm hi hlk hr hfin hd hn hfit (List.getElem?_eq_some_iff.mp hb).1 rfl rfl rfl (fun b h => mC_sV h) (mkO_setV M a i v _ hb).symm d k
theorem go_putR {ref C : String} {T : u_T} {N κ index a b : Nat} {ty : FieldType} (i : Nat) (hC : Cb K own cc nL) (hk : mK M a = κ) (hO : isO κ = true) (hb : (oS κ)[i]? = some false) (hc : vwCl[oI κ]? = some (C, T, N)) (hin : ∀ w ∈ u_ws C T N, w ∈ wsL_law) (ty0 : Nat → FieldType) (hty : ∀ k, k < N → parseFieldDescriptor (T k).2.2.1 = some (ty0 k)) (hnm : ∀ a, a < N → ∀ b, b < N → a ≠ b → (T a).2.1 ≠ (T b).2.1) (hi : i < N) (hlk : Cond.fieldLink own index ref (T i).2.1 (T i).2.2.1 ∈ wsL_law)
    (hr : (T i).1 = ref ∨ Cond.sameField ref (T i).1 (T i).2.1 (T i).2.2.1 ∈ wsL_law) (hfin : (T i).2.2.2 = false ∨ ((T i).2.2.2 = true ∧ (T i).1 = own ∧ K.2.2.2.2.2.2.2.2.1.name = "<init>")) (hd : parseFieldDescriptor (T i).2.2.1 = some ty) (hn : narrow ty (.ref b) = .ref b) (hfit : fits ty (.ref b) = true)
    (d : decode cc pc = .ok (.putfield index, 3)) (k : Go x K nL Q (pc + 3) lv st (sP M a i (some b))) : Go x K nL Q pc lv (.ref b :: .ref a :: st) M :=
  go_put (M' := sP M a i (some b)) hC hk hO hc hin ty0 hty hnm hi hlk hr hfin hd hn hfit (List.getElem?_eq_some_iff.mp hb).1 rfl rfl rfl (fun c h => mC_sP h) (mkO_setP M a i (some b) _ hb).symm d k
theorem go_iald {a : Nat} {i : Int32} (hC : Cb K own cc nL) (hk : mK M a = 8) (hin : vp_in i (mN M a)) (d : decode cc pc = .ok (.iaload, 1)) (k : Go x K nL Q (pc + 1) lv (.int (mV M a i.toNatClampNeg) :: st) M) : Go x K nL Q pc lv (.int i :: .ref a :: st) M := by
  obtain ⟨p, l, e, R, s, m, args, below, meth, c⟩ := K
  obtain ⟨hx, hb, hml, hown, hts, hlk9⟩ := hC
  intro H locs ls cells slots hl hw
  have hP := hw.1.at (a := a) (by rw [hk]; decide)
  rw [mC_8 hk] at hP
  exact va_iald hx hb hw.2.1.1 hP 0 0 rfl rfl hin d (k H locs ls cells slots hl hw)
theorem go_zald {a : Nat} {i : Int32} (hC : Cb K own cc nL) (hk : mK M a = 9) (hin : vp_in i (mN M a)) (d : decode cc pc = .ok (.baload, 1)) (k : Go x K nL Q (pc + 1) lv (.int (mV M a i.toNatClampNeg) :: st) M) : Go x K nL Q pc lv (.int i :: .ref a :: st) M := by
  obtain ⟨p, l, e, R, s, m, args, below, meth, c⟩ := K
  obtain ⟨hx, hb, hml, hown, hts, hlk9⟩ := hC
  intro H locs ls cells slots hl hw
  have hP := hw.1.at (a := a) (by rw [hk]; decide)
  rw [mC_9 hk] at hP
  exact va_zald hx hb hw.2.1.1 hP 0 1 rfl rfl hin d (k H locs ls cells slots hl hw)
theorem go_lald {a : Nat} {i : Int32} (hC : Cb K own cc nL) (hk : mK M a = 12) (hin : vp_in i (mN M a)) (d : decode cc pc = .ok (.laload, 1)) (k : Go x K nL Q (pc + 1) lv (.long (mJ M a i.toNatClampNeg) :: st) M) : Go x K nL Q pc lv (.int i :: .ref a :: st) M := by
  obtain ⟨p, l, e, R, s, m, args, below, meth, c⟩ := K
  obtain ⟨hx, hb, hml, hown, hts, hlk9⟩ := hC
  intro H locs ls cells slots hl hw
  have hP := hw.1.at (a := a) (by rw [hk]; decide)
  rw [mC_12 hk] at hP
  exact va_lald hx hb hw.2.1.1 hP 0 4 rfl rfl hin d (k H locs ls cells slots hl hw)
theorem go_aald {a b : Nat} {i : Int32} (hC : Cb K own cc nL) (hk : mK M a = 10 ∨ mK M a = 11) (hin : vp_in i (mN M a)) (hp : mP M a i.toNatClampNeg = some b) (d : decode cc pc = .ok (.aaload, 1)) (k : Go x K nL Q (pc + 1) lv (.ref b :: st) M) : Go x K nL Q pc lv (.int i :: .ref a :: st) M := by
  obtain ⟨p, l, e, R, s, m, args, below, meth, c⟩ := K
  obtain ⟨hx, hb, hml, hown, hts, hlk9⟩ := hC
  intro H locs ls cells slots hl hw
  have hP := hw.1.at (a := a) (by rcases hk with hk | hk <;> rw [hk] <;> decide)
  have kk := k H locs ls cells slots hl hw
  rw [show (Value.ref b) = va_rf (mP M a i.toNatClampNeg) by rw [hp]; rfl] at kk
  rcases hk with hk | hk
  · rw [mC_10 hk] at hP
    exact va_aldq (C := "SnapSites$Site") hx hb hw.2.1.1 hP 0 2 rfl rfl hin d kk
  · rw [mC_11 hk] at hP
    exact va_aldq (C := "java/lang/Object") hx hb hw.2.1.1 hP 0 3 rfl rfl hin d kk
theorem go_alen {a κ : Nat} (hC : Cb K own cc nL) (hk : mK M a = κ) (hκ : κ = 8 ∨ κ = 9 ∨ κ = 10 ∨ κ = 11 ∨ κ = 12 ∨ κ = 13) (d : decode cc pc = .ok (.arraylength, 1)) (k : Go x K nL Q (pc + 1) lv (.int (nI (mN M a)) :: st) M) : Go x K nL Q pc lv (.ref a :: st) M := by
  obtain ⟨p, l, e, R, s, m, args, below, meth, c⟩ := K
  obtain ⟨hx, hb, hml, hown, hts, hlk9⟩ := hC
  intro H locs ls cells slots hl hw
  have hP := hw.1.at (a := a) (by rcases hκ with h | h | h | h | h | h <;> rw [hk, h] <;> decide)
  have kk := k H locs ls cells slots hl hw
  rcases hκ with h | h | h | h | h | h <;> rw [h] at hk
  · rw [mC_8 hk] at hP
    exact va_alen hx hb hw.2.1.1 hP 0 0 rfl rfl rfl d kk
  · rw [mC_9 hk] at hP
    exact va_alen hx hb hw.2.1.1 hP 0 1 rfl rfl rfl d kk
  · rw [mC_10 hk] at hP
    exact va_alen hx hb hw.2.1.1 hP 0 2 rfl rfl rfl d kk
  · rw [mC_11 hk] at hP
    exact va_alen hx hb hw.2.1.1 hP 0 3 rfl rfl rfl d kk
  · rw [mC_12 hk] at hP
    exact va_alen hx hb hw.2.1.1 hP 0 4 rfl rfl rfl d kk
  · rw [mC_13 hk] at hP
    exact va_alen hx hb hw.2.1.1 hP 0 3 rfl rfl rfl d kk
/-- a store into an array -/
theorem go_arst {a : Nat} {cell : Cell} {j : Nat} {v : Value} {M' : Mm} {s : State} {H : Heap} {locs : List Loc} (hw : Wo x M s H locs) (hA : xA x a) (hcell : H[a]? = some cell) (hK' : mK M' = mK M) (hX' : mX M' = mX M) (hS' : mS M' = mS M) (hC' : ∀ b, b ≠ a → mC x M' b = mC x M b)
    (H' : Heap) (e1 : H'[a]? = some (cell.setSlot j v)) (e2 : H'.size = H.size) (e3 : ∀ q, q ≠ a → H'[q]? = H[q]?) (ha : va_at (xD x) vwCl (a, mC x M' a) H') : Wo x M' s H' (locs ++ [⟨a, j⟩]) :=
  ⟨hw.1.set e2 hcell e1 (k2_slotsz _ _ _) e3 hK' hX' hS' hC' ha, hw.2.1.kept (fun b _ hb9 => e3 b (fun z => hb9 (by rw [z]; exact hA))), hw.2.2.put e2 e3 hA⟩
theorem go_iast {a : Nat} {i v : Int32} (hC : Cb K own cc nL) (hk : mK M a = 8) (hin : vp_in i (mN M a)) (d : decode cc pc = .ok (.iastore, 1)) (k : Go x K nL Q (pc + 1) lv st (sV M a i.toNatClampNeg v)) : Go x K nL Q pc lv (.int v :: .int i :: .ref a :: st) M := by
  obtain ⟨p, l, e, R, s, m, args, below, meth, c⟩ := K
  obtain ⟨hx, hb, hml, hown, hts, hlk9⟩ := hC
  intro H locs ls cells slots hl hw
  have h0 : mK M a ≠ 0 := by rw [hk]; decide
  have hP := hw.1.at (a := a) h0
  rw [mC_8 hk] at hP
  have hc : H[a]? = some (vp_cell (xI x) (mN M a, .inl (mV M a))) := hP 0 _ rfl
  refine W.iast hx hb hc ((hw.2.1.1.2 0 _ rfl).1 (mN M a) (fun j => .int (mV M a j))) (fun q => by cases q) (by show ¬ (i < 0 ∨ (arrV _ _ _).slots.size ≤ _); rw [arrV_size]; exact hin) rfl rfl d fun H1 e1 z oq => ?_
  refine k H1 _ ls cells slots hl (go_arst (M' := sV M a i.toNatClampNeg v) hw ((hw.1.1 a h0).2 (by rw [hk]; decide)) hc rfl rfl rfl (fun b h => mC_sV h) H1 e1 z oq ?_)
  rw [mC_8 (show mK (sV M a i.toNatClampNeg v) a = 8 from hk)]
  show H1[a]? = some (vp_cell _ _)
  rw [e1, vp_cell_i, vp_cell_i, arrV_store]
  congr 2
  funext q
  by_cases hq : q = i.toNatClampNeg
  · subst hq
    simp [updV, sV, mV, va_up]
  · simp [updV, sV, mV, va_up, hq]
theorem go_zast {a : Nat} {i v : Int32} (hC : Cb K own cc nL) (hk : mK M a = 9) (hin : vp_in i (mN M a)) (d : decode cc pc = .ok (.bastore, 1)) (k : Go x K nL Q (pc + 1) lv st (sV M a i.toNatClampNeg (vp_nar .boolean v))) : Go x K nL Q pc lv (.int v :: .int i :: .ref a :: st) M := by
  obtain ⟨p, l, e, R, s, m, args, below, meth, c⟩ := K
  obtain ⟨hx, hb, hml, hown, hts, hlk9⟩ := hC
  intro H locs ls cells slots hl hw
  have h0 : mK M a ≠ 0 := by rw [hk]; decide
  have hP := hw.1.at (a := a) h0
  rw [mC_9 hk] at hP
  have hc : H[a]? = some (vp_cell (xZ x) (mN M a, .inl (mV M a))) := hP 0 _ rfl
  refine W.zast hx hb hc ((hw.2.1.1.2 1 _ rfl).1 (mN M a) (fun j => .int (mV M a j))) (fun q => by cases q) (by show ¬ (i < 0 ∨ (arrV _ _ _).slots.size ≤ _); rw [arrV_size]; exact hin) rfl rfl d fun H1 e1 z oq => ?_
  refine k H1 _ ls cells slots hl (go_arst (M' := sV M a i.toNatClampNeg (vp_nar .boolean v)) hw ((hw.1.1 a h0).2 (by rw [hk]; decide)) hc rfl rfl rfl (fun b h => mC_sV h) H1 e1 z oq ?_)
  rw [mC_9 (show mK (sV M a i.toNatClampNeg (vp_nar .boolean v)) a = 9 from hk)]
  show H1[a]? = some (vp_cell _ _)
  rw [e1, vp_cell_i, vp_cell_i, arrV_store]
  congr 2
  funext q
  by_cases hq : q = i.toNatClampNeg
  · subst hq
    simp [updV, sV, mV, va_up, vp_nar, narrow]
  · simp [updV, sV, mV, va_up, hq]
theorem go_last {a : Nat} {i : Int32} {v : Int64} (hC : Cb K own cc nL) (hk : mK M a = 12) (hin : vp_in i (mN M a)) (d : decode cc pc = .ok (.lastore, 1)) (k : Go x K nL Q (pc + 1) lv st (sJ M a i.toNatClampNeg v)) : Go x K nL Q pc lv (.long v :: .int i :: .ref a :: st) M := by
  obtain ⟨p, l, e, R, s, m, args, below, meth, c⟩ := K
  obtain ⟨hx, hb, hml, hown, hts, hlk9⟩ := hC
  intro H locs ls cells slots hl hw
  have h0 : mK M a ≠ 0 := by rw [hk]; decide
  have hP := hw.1.at (a := a) h0
  rw [mC_12 hk] at hP
  have hc : H[a]? = some (vp_cell (xJ x) (mN M a, .inr (.inl (mJ M a)))) := hP 0 _ rfl
  refine W.last hx hb hc ((hw.2.1.1.2 4 _ rfl).1 (mN M a) (fun j => .long (mJ M a j))) (fun q => by cases q) (by show ¬ (i < 0 ∨ (arrV _ _ _).slots.size ≤ _); rw [arrV_size]; exact hin) rfl rfl d fun H1 e1 z oq => ?_
  refine k H1 _ ls cells slots hl (go_arst (M' := sJ M a i.toNatClampNeg v) hw ((hw.1.1 a h0).2 (by rw [hk]; decide)) hc rfl rfl rfl (fun b h => mC_sJ h) H1 e1 z oq ?_)
  rw [mC_12 (show mK (sJ M a i.toNatClampNeg v) a = 12 from hk)]
  show H1[a]? = some (vp_cell _ _)
  rw [e1, vp_cell_l, vp_cell_l, arrV_store]
  congr 2
  funext q
  by_cases hq : q = i.toNatClampNeg
  · subst hq
    simp [updV, sJ, mJ, va_up]
  · simp [updV, sJ, mJ, va_up, hq]
end HeapRows
