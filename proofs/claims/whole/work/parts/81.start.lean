/-! THE START: what the Statement gives of it is the world Zs over the empty memory -/
theorem z_arr {args : Array Value} {s : State} {ty : FieldType} (h : (Cond.arrayClass ty).before args s = true) (hn : ∀ C, ty ≠ .object C) : ∃ cA, ArrOfT s cA ty ∧ va_RA s cA ty := by
  obtain ⟨c, k, comp, h1, h2, h3⟩ := Cond.arrayClass_spec h
  refine ⟨c, fun n z => ⟨(fun k h => by cases h), k, h2, comp, h3⟩, ?_⟩
  cases ty with
  | object C => exact absurd rfl (hn C)
  | _ => exact h1
theorem z_obj {args : Array Value} {s : State} {C : String} (h : (Cond.arrayOver (.object C)).before args s = true) : ∃ cA, ArrOfT s cA (.object C) ∧ va_RA s cA (.object C) := by
  obtain ⟨comp, c, k, h1, -, h2, h3, h4⟩ := Cond.arrayOver_spec h
  exact ⟨c, fun n z => ⟨(fun k h => by cases h), k, h2, comp, h3⟩, k, comp, h2, h3, h1, h4⟩
theorem z_len {args : Array Value} {s : State} {t : Term} (h : (Term.length t).eval args s none [] s = some (.int 0)) : ∃ a cell, t.eval args s none [] s = some (.ref a) ∧ s.arrayAt? a = some cell ∧ cell.slots.size = 0 := by
  simp only [Term.eval, Option.bind_eq_bind] at h
  cases ht : t.eval args s none [] s with
  | none => simp [ht] at h
  | some x =>
    cases x <;> simp [ht] at h
    case ref a =>
      obtain ⟨cell, hcell, h⟩ := Option.bind_eq_some_iff.mp h
      by_cases hn : cell.slots.size < 2147483648
      · rw [if_pos hn] at h
        have e : cell.slots.size.toInt32 = 0 := Value.int.inj (Option.some.inj h)
        have e2 : (Int32.ofNat cell.slots.size).toNatClampNeg = cell.slots.size := Int32.toNatClampNeg_ofNat_of_lt hn
        refine ⟨a, cell, rfl, hcell, ?_⟩
        rw [← e2, show Int32.ofNat cell.slots.size = 0 from e]
        rfl
      · rw [if_neg hn] at h; cases h
theorem z_str {args : Array Value} {s : State} {own tx : String} {k : Nat} (h1 : (Cond.stringRef own k tx).before args s = true) (h2 : (Cond.exactly (.string own k) "java/lang/String").before args s = true) : ∃ a, vk_R own k tx a s := by
  obtain ⟨a, c, cell, k, q1, -⟩ := Cond.exactly_spec h2
  exact ⟨a, vk_R.of h1 q1⟩
def z_fl : List Cond := flatC (Jvm.Cond.and given_1 narrow_1)
theorem zf_U : Cond.isRef (.static Bundle.tN "UNASSIGNED_STACK" Bundle.steD) ∈ z_fl := by decide +kernel
theorem zf_S : Cond.isRef (.static Bundle.tN "SUPPRESSED_SENTINEL" Bundle.listD) ∈ z_fl := by decide +kernel
theorem zf_A : Cond.arrayOf (.static "java/util/ArrayList" "DEFAULTCAPACITY_EMPTY_ELEMENTDATA" "[Ljava/lang/Object;") (.object "java/lang/Object") ∈ z_fl := by decide +kernel
theorem zf_L : Cond.eq (.length (.static "java/util/ArrayList" "DEFAULTCAPACITY_EMPTY_ELEMENTDATA" "[Ljava/lang/Object;")) (.int 0) ∈ z_fl := by decide +kernel
theorem zf_M : Cond.isRef (.mirror "[Ljava/lang/Object;") ∈ z_fl := by decide +kernel
theorem zf_N : Cond.not (.castable "java/lang/IllegalStateException" "java/lang/IllegalArgumentException") ∈ z_fl := by decide +kernel
theorem zf_1 : Cond.exactly (.string RX4 254) "java/lang/String" ∈ z_fl := by decide +kernel
theorem zf_2 : Cond.exactly (.string RX4 258) "java/lang/String" ∈ z_fl := by decide +kernel
theorem zf_3 : Cond.exactly (.string RX4 230) "java/lang/String" ∈ z_fl := by decide +kernel
theorem zt_U : Cond.laysStatic Bundle.tN "UNASSIGNED_STACK" Bundle.steD ∈ lw_tbl := by decide +kernel
theorem zt_S : Cond.laysStatic Bundle.tN "SUPPRESSED_SENTINEL" Bundle.listD ∈ lw_tbl := by decide +kernel
theorem zt_A : Cond.laysStatic "java/util/ArrayList" "DEFAULTCAPACITY_EMPTY_ELEMENTDATA" "[Ljava/lang/Object;" ∈ lw_tbl := by decide +kernel
theorem zt_iT : Cond.initialized Bundle.tN ∈ lw_tbl := by decide +kernel
theorem zt_iA : Cond.initialized "java/util/ArrayList" ∈ lw_tbl := by decide +kernel
theorem zt_D : Cond.declares ⟨"java/lang/Object", "getClass", "()Ljava/lang/Class;"⟩ ∈ lw_tbl := by decide +kernel
theorem zt_O : Cond.arrayOver (.object "java/lang/Object") ∈ lw_tbl := by decide +kernel
theorem zt_T : Cond.arrayOver (.object "SnapSites$Site") ∈ lw_tbl := by decide +kernel
theorem zt_1 : Cond.stringRef RX4 254 "an argument is not as it may be" ∈ lw_tbl := by decide +kernel
theorem zt_2 : Cond.stringRef RX4 258 "not in this state" ∈ lw_tbl := by decide +kernel
theorem zt_3 : Cond.stringRef RX4 230 "no such question" ∈ lw_tbl := by decide +kernel
theorem zt_n : ∀ w ∈ nst, w ∈ lw_tbl := by decide +kernel
theorem zt_c : ∀ w ∈ cst, w ∈ lw_tbl := by decide +kernel
theorem zt_i0 : Cond.instantiable RX0 4 ∈ lw_tbl := by decide +kernel
theorem zt_i1 : Cond.instantiable RX1 4 ∈ lw_tbl := by decide +kernel
theorem zt_i2 : Cond.instantiable RX2 5 ∈ lw_tbl := by decide +kernel
theorem zt_i3 : Cond.instantiable RX3 16 ∈ lw_tbl := by decide +kernel
theorem zt_i4 : Cond.instantiable RX4 7 ∈ lw_tbl := by decide +kernel
theorem zt_i5 : Cond.instantiable RX5 28 ∈ lw_tbl := by decide +kernel
theorem zt_i6 : Cond.instantiable RJx4a65c 3 ∈ lw_tbl := by decide +kernel
theorem z_nst (w : Cond) (h : w ∈ nst) : w.onTables = true := by
  simp only [nst, List.mem_cons, List.not_mem_nil, or_false] at h
  rcases h with rfl | rfl | rfl | rfl | rfl <;> rfl
theorem z_cst (w : Cond) (h : w ∈ cst) : w.onTables = true := by
  simp only [cst, List.mem_cons, List.not_mem_nil, or_false] at h
  rcases h with rfl | rfl | rfl | rfl | rfl | rfl | rfl <;> rfl
set_option maxHeartbeats 4000000 in
theorem z_start {s : State} {args : Array Value} (hts : ∀ w ∈ lw_tbl, w.before args s = true) (hf : ∀ w ∈ z_fl, w.before args s = true) :
    ∃ x : Cx, Zs x s s.heap ∧ xB x = s.heap.size ∧ xE x < s.heap.size ∧ xC x = s.heap.size + 601024 ∧ xL x = hs s.heap + 7293034 := by
  have h9 : ∀ w ∈ wsL_law, w.before args s = true := fun w h => hts w (wsL_law_in w h)
  obtain ⟨c0, d0, k0⟩ := u_known h9 inlJx4a65c (hts _ zt_i6)
  obtain ⟨c1, d1, k1⟩ := u_known h9 inlX0 (hts _ zt_i0)
  obtain ⟨c2, d2, k2⟩ := u_known h9 inlX1 (hts _ zt_i1)
  obtain ⟨c3, d3, k3⟩ := u_known h9 inlX2 (hts _ zt_i2)
  obtain ⟨c4, d4, k4⟩ := u_known h9 inlX3 (hts _ zt_i3)
  obtain ⟨c5, d5, k5⟩ := u_known h9 inlX4 (hts _ zt_i4)
  obtain ⟨c6, d6, k6⟩ := u_known h9 inlX5 (hts _ zt_i5)
  obtain ⟨aI, hI⟩ := z_arr (h9 _ m_29) (fun C h => by cases h)
  obtain ⟨aZ, hZ⟩ := z_arr (h9 _ m_77) (fun C h => by cases h)
  obtain ⟨aJ, hJ⟩ := z_arr (h9 _ m_6) (fun C h => by cases h)
  obtain ⟨aO, hO⟩ := z_obj (hts _ zt_O)
  obtain ⟨aT, hT⟩ := z_obj (hts _ zt_T)
  obtain ⟨q, cell, e1, e2, e3⟩ := z_len (va_eqt (hf _ zf_L))
  have e4 := (State.arrayAt?_spec e2).1
  have hq : q < s.heap.size := (Array.getElem?_eq_some_iff.mp e4).1
  have e5 := (Cond.arrayOf_spec (hf _ zf_A) e1 e4).1
  obtain ⟨mi, hm⟩ := va_Mi.of (hf _ zf_M)
  have hA : ∀ a : Nat, a < s.heap.size → ¬ s.heap.size ≤ a := fun a h => Nat.not_le.mpr h
  refine ⟨((fun k => [c0, c1, c2, c3, c4, c5, c6].getD k c0, fun k => [d0, d1, d2, d3, d4, d5, d6].getD k d0), (aI, aZ, aT, aO, aJ), (s.heap.size, q, mi, s.heap.size + 601024, hs s.heap + 7293034)), ?_, rfl, hq, rfl, rfl⟩
  refine ⟨⟨fun k r hr => ?_, fun k r hr => ?_⟩, fun w h => va_Nw.of (z_nst w h) (hts w (zt_n w h)), vx_Zqof (hts _ zt_U) (hts _ zt_iT) (hf _ zf_U) hA, vx_Zqof (hts _ zt_S) (hts _ zt_iT) (hf _ zf_S) hA, ⟨va_Zref (hts _ zt_A) (hts _ zt_iA) e1 hA, cell, e4, e5, e3, hA q hq⟩, hm, va_Dc.of (hts _ zt_D), va_AO.of (hts _ zt_O), va_AO.of (hts _ zt_T),
    z_str (hts _ zt_1) (hf _ zf_1), z_str (hts _ zt_2) (hf _ zf_2), z_str (hts _ zt_3) (hf _ zf_3), va_Nc.of (hf _ zf_N), fun w h => va_Nw.of (z_cst w h) (hts w (zt_c w h))⟩
  · match k, hr with
    | 0, hr => cases hr; exact k0
    | 1, hr => cases hr; exact k1
    | 2, hr => cases hr; exact k2
    | 3, hr => cases hr; exact k3
    | 4, hr => cases hr; exact k4
    | 5, hr => cases hr; exact k5
    | 6, hr => cases hr; exact k6
    | k + 7, hr => simp [vwCl] at hr
  · match k, hr with
    | 0, hr => cases hr; exact hI
    | 1, hr => cases hr; exact hZ
    | 2, hr => cases hr; exact hT
    | 3, hr => cases hr; exact hO
    | 4, hr => cases hr; exact hJ
    | k + 5, hr => simp [xTy] at hr
