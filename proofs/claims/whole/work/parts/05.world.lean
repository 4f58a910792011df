/-! THE WORLD: a heap that holds a memory; what of the tables and statics a walk uses -/
def nst : List Cond := [.methodLinkNest RX4 15 yX2_init RX4, .methodLinkNest RX4 28 yX0_init RX4, .methodLinkNest RX4 61 yX3_init RX4, .methodLinkNest RX3 62 yX4_has RX4, .methodLinkNest RX4 305 yX1_init RX4]
def cst : List Cond := [.castable RX1 "java/lang/Object", .castable RX3 "java/lang/Object", .castable "java/lang/IllegalArgumentException" "java/lang/IllegalArgumentException", .castable "java/lang/IllegalStateException" "java/lang/IllegalStateException", .declares (Bundle.initS "java/lang/RuntimeException"), .declares (Bundle.initS "java/lang/Exception"), .declares (Bundle.initS Bundle.tN)]
def Hp (x : Cx) (M : Mm) (H : Heap) : Prop := (∀ a, mK M a ≠ 0 → va_at (xD x) vwCl (a, mC x M a) H ∧ (mK M a ≠ 13 → xB x ≤ a)) ∧ H.size = mX M ∧ hs H = mS M ∧ mX M ≤ xC x ∧ mS M ≤ xL x ∧ xB x ≤ mX M
/-- the shared empty array: of length 0, not ours -/
def Ea (x : Cx) (U : State) (H : Heap) : Prop := ∃ cell : Cell, H[xE x]? = some cell ∧ U.isArrayOf cell (.object "java/lang/Object") ∧ cell.slots.size = 0 ∧ ¬ xA x (xE x)
theorem Ea.moved {x : Cx} {u U : State} {H : Heap} (hvm : u.vm.Alike U.vm) (h : Ea x u H) : Ea x U H := by
  obtain ⟨cell, h1, h2, h3, h4⟩ := h
  exact ⟨cell, h1, State.isArrayOf_alike hvm h2, h3, h4⟩
theorem Ea.kept {x : Cx} {U : State} {H H1 : Heap} (h : Ea x U H) (hq : ∀ a : Nat, a < H.size → ¬ xA x a → H1[a]? = H[a]?) : Ea x U H1 := by
  obtain ⟨cell, h1, h2, h3, h4⟩ := h
  exact ⟨cell, by rw [hq _ (Array.getElem?_eq_some_iff.mp h1).1 h4]; exact h1, h2, h3, h4⟩
def Zs (x : Cx) (U : State) (H : Heap) : Prop := va_K (xD x) vwCl (xTy x) U ∧ (∀ w ∈ nst, va_Nw w U) ∧ vx_Zq Bundle.tN "UNASSIGNED_STACK" Bundle.steD (xA x) U H ∧ vx_Zq Bundle.tN "SUPPRESSED_SENTINEL" Bundle.listD (xA x) U H ∧
  (va_Z "java/util/ArrayList" "DEFAULTCAPACITY_EMPTY_ELEMENTDATA" "[Ljava/lang/Object;" (.ref (xE x)) (xA x) U H ∧ Ea x U H) ∧ va_Mi "[Ljava/lang/Object;" (xG x) U ∧ va_Dc U ∧ va_AO "java/lang/Object" U ∧ va_AO "SnapSites$Site" U ∧
  (∃ a, vk_R RX4 254 "an argument is not as it may be" a U) ∧ (∃ a, vk_R RX4 258 "not in this state" a U) ∧ (∃ a, vk_R RX4 230 "no such question" a U) ∧ va_Nc "java/lang/IllegalStateException" "java/lang/IllegalArgumentException" U ∧ (∀ w ∈ cst, va_Nw w U)
theorem nst_warm {s U : State} (hW : s.WarmedH U.vm) (h : ∀ w ∈ nst, va_Nw w s) : ∀ w ∈ nst, va_Nw w U := by
  intro w hw
  have h1 := h w hw
  simp only [nst, List.mem_cons, List.not_mem_nil, or_false] at hw
  rcases hw with rfl | rfl | rfl | rfl | rfl <;> exact va_Nw.warmM hW h1
theorem nst_same {s U : State} (hv : s.vm = U.vm) (h : ∀ w ∈ nst, va_Nw w s) : ∀ w ∈ nst, va_Nw w U := by
  intro w hw
  have h1 := h w hw
  simp only [nst, List.mem_cons, List.not_mem_nil, or_false] at hw
  rcases hw with rfl | rfl | rfl | rfl | rfl <;> exact va_Nw.same rfl hv h1
theorem cst_warm {s U : State} (hW : s.WarmedH U.vm) (h : ∀ w ∈ cst, va_Nw w s) : ∀ w ∈ cst, va_Nw w U := by
  intro w hw
  have h1 := h w hw
  simp only [cst, List.mem_cons, List.not_mem_nil, or_false] at hw
  rcases hw with rfl | rfl | rfl | rfl | rfl | rfl | rfl <;> first | exact va_Nw.warmC hW h1 | exact va_Nw.warmD hW h1
theorem cst_same {s U : State} (hv : s.vm = U.vm) (h : ∀ w ∈ cst, va_Nw w s) : ∀ w ∈ cst, va_Nw w U := by
  intro w hw
  have h1 := h w hw
  simp only [cst, List.mem_cons, List.not_mem_nil, or_false] at hw
  rcases hw with rfl | rfl | rfl | rfl | rfl | rfl | rfl <;> exact va_Nw.same rfl hv h1
theorem Zs.warm {x : Cx} {s U : State} {H : Heap} (hW : s.WarmedH U.vm) (h : Zs x s H) : Zs x U H := by
  obtain ⟨h1, h2, h3, h4, h5, h6, h7, h8, h9, ⟨a1, h10⟩, ⟨a2, h11⟩, ⟨a3, h12⟩, h13, h14⟩ := h
  exact ⟨va_K.moved hW.alike h1, nst_warm hW h2, vx_Zq.moved hW.alike h3, vx_Zq.moved hW.alike h4, ⟨va_Z.moved hW.alike h5.1, Ea.moved hW.alike h5.2⟩, va_Mi.moved hW.alike h6, va_Dc.moved hW.alike h7, va_AO.moved hW.alike h8, va_AO.moved hW.alike h9, ⟨a1, vk_R.warm hW h10⟩, ⟨a2, vk_R.warm hW h11⟩, ⟨a3, vk_R.warm hW h12⟩, va_Nc.moved hW.alike h13, cst_warm hW h14⟩
theorem Zs.same {x : Cx} {s U : State} {H : Heap} (hv : s.vm = U.vm) (h : Zs x s H) : Zs x U H := by
  obtain ⟨h1, h2, h3, h4, h5, h6, h7, h8, h9, ⟨a1, h10⟩, ⟨a2, h11⟩, ⟨a3, h12⟩, h13, h14⟩ := h
  have hA : s.vm.Alike U.vm := by rw [hv]; exact Vm.Alike.refl _
  exact ⟨va_K.moved hA h1, nst_same hv h2, vx_Zq.moved hA h3, vx_Zq.moved hA h4, ⟨va_Z.moved hA h5.1, Ea.moved hA h5.2⟩, va_Mi.moved hA h6, va_Dc.moved hA h7, va_AO.moved hA h8, va_AO.moved hA h9, ⟨a1, vk_R.same hv.symm h10⟩, ⟨a2, vk_R.same hv.symm h11⟩, ⟨a3, vk_R.same hv.symm h12⟩, va_Nc.moved hA h13, cst_same hv h14⟩
theorem Zs.kept {x : Cx} {s : State} {H H1 : Heap} (h : Zs x s H) (hq : ∀ a : Nat, a < H.size → ¬ xA x a → H1[a]? = H[a]?) : Zs x s H1 := by
  obtain ⟨h1, h2, h3, h4, h5, h6⟩ := h
  exact ⟨h1, h2, vx_Zq.kept h3 hq, vx_Zq.kept h4 hq, ⟨va_Z.kept h5.1 hq, Ea.kept h5.2 hq⟩, h6⟩
theorem hs_eq {H H1 : Heap} (hz : H1.size = H.size) (h : ∀ q : Nat, (H1[q]?).map (·.slots.size) = (H[q]?).map (·.slots.size)) : hs H1 = hs H := by
  unfold hs
  congr 1
  apply List.ext_getElem?
  intro q
  rw [List.getElem?_map, List.getElem?_map, Array.getElem?_toList, Array.getElem?_toList]
  exact h q
theorem hs_set {H H1 : Heap} {a : Nat} {c0 c1 : Cell} (hz : H1.size = H.size) (h0 : H[a]? = some c0) (h1 : H1[a]? = some c1) (hc : c1.slots.size = c0.slots.size) (o : ∀ q : Nat, q ≠ a → H1[q]? = H[q]?) : hs H1 = hs H := by
  refine hs_eq hz fun q => ?_
  by_cases hq : q = a
  · subst hq
    rw [h0, h1]
    simp [hc]
  · rw [o q hq]
theorem hs_push (H : Heap) (c : Cell) : hs (H.push c) = hs H + c.slots.size := by
  unfold hs
  simp
theorem hs_new {H H1 : Heap} {c : Cell} (hz : H1.size = H.size + 1) (h1 : H1[H.size]? = some c) (o : ∀ q : Nat, q < H.size → H1[q]? = H[q]?) : hs H1 = hs H + c.slots.size := by
  have e : H1 = H.push c := by
    apply Array.ext_getElem?
    intro q
    rw [Array.getElem?_push]
    by_cases hq : q = H.size
    · subst hq
      rw [if_pos rfl, h1]
    · rw [if_neg hq]
      by_cases hl : q < H.size
      · exact o q hl
      · rw [Array.getElem?_eq_none (by omega), Array.getElem?_eq_none (by omega)]
  rw [e, hs_push]
/-- a heap that only grew: what its first cells hold in slots -/
theorem hs_drop {s : State} {T : State} {locs : List Loc} {k n : Nat} (h : s.sameButNew T locs k n) : ((T.heap.toList.drop s.heap.size).map (·.slots.size)).sum + hs s.heap = hs T.heap := by
  obtain ⟨-, h2, -, -, -, h6⟩ := h
  have e : hs T.heap = ((T.heap.toList.take s.heap.size).map (·.slots.size)).sum + ((T.heap.toList.drop s.heap.size).map (·.slots.size)).sum := by
    unfold hs
    conv => lhs; rw [← List.take_append_drop s.heap.size T.heap.toList]
    rw [List.map_append, List.sum_append]
  have e2 : (T.heap.toList.take s.heap.size).map (·.slots.size) = s.heap.toList.map (·.slots.size) := by
    apply List.ext_getElem?
    intro q
    rw [List.getElem?_map, List.getElem?_map, List.getElem?_take, Array.getElem?_toList, Array.getElem?_toList]
    by_cases hq : q < s.heap.size
    · rw [if_pos hq]
      obtain ⟨c', r1, -, r3, -⟩ := h6 q _ (Array.getElem?_eq_getElem hq)
      rw [r1, Array.getElem?_eq_getElem hq]
      simp [r3]
    · rw [if_neg hq, Array.getElem?_eq_none (by omega)]
  rw [e, e2]
  unfold hs
  omega
section Tight
variable {p : Program} {l : Launch} {e : Env} {R : Room} {s : State} {m : MethodId} {args : Array Value} {below : List Frame} {meth : Method} {c : Code} {H : Heap} {locs : List Loc} {cells slots : Nat} {Q : State → Prop}
/-- the count of what was made, taken anew from the heap -/
theorem W.tight {g : JFrame} (kk : hs s.heap ≤ hs H → W p l e R s m args below meth c H locs (H.size - s.heap.size) (hs H - hs s.heap) Q g) : W p l e R s m args below meth c H locs cells slots Q g := by
  intro T hT X
  have hd : ((T.heap.toList.drop s.heap.size).map (·.slots.size)).sum + hs s.heap = hs T.heap := hs_drop (T := T.setVm s.vm) X.same
  refine kk (by rw [hT] at hd; omega) T hT { X with same := ?_ }
  obtain ⟨h1, h2, h3, h4, h5, h6⟩ := X.same
  have hh : (T.setVm s.vm).heap = T.heap := rfl
  refine ⟨h1, h2, ?_, h4, ?_, h6⟩
  · rw [hh, hT]
    rw [hh, hT] at h2
    omega
  · show ((T.heap.toList.drop s.heap.size).map (·.slots.size)).sum ≤ _
    rw [hT] at hd
    rw [hT]
    omega
/-- what the count says of the heap -/
theorem W.know {g : JFrame} (kk : H.size ≤ s.heap.size + cells → hs H ≤ hs s.heap + slots → W p l e R s m args below meth c H locs cells slots Q g) : W p l e R s m args below meth c H locs cells slots Q g := by
  intro T hT X
  have hd : ((T.heap.toList.drop s.heap.size).map (·.slots.size)).sum + hs s.heap = hs T.heap := hs_drop (T := T.setVm s.vm) X.same
  obtain ⟨h1, h2, h3, h4, h5, h6⟩ := X.same
  have h3' : T.heap.size ≤ s.heap.size + cells := h3
  have h5' : ((T.heap.toList.drop s.heap.size).map (·.slots.size)).sum ≤ slots := h5
  rw [hT] at hd h3' h5'
  exact kk h3' (by omega) T hT X
end Tight
theorem Hp.at {x : Cx} {M : Mm} {H : Heap} (h : Hp x M H) {a : Nat} (ha : mK M a ≠ 0) : va_P (xD x) vwCl [(a, mC x M a)] H := by
  intro k q hq
  have hk : k = 0 := by
    have := (List.getElem?_eq_some_iff.mp hq).1
    simp at this
    omega
  subst hk
  cases hq
  exact (h.1 a ha).1
theorem Hp.lt {x : Cx} {M : Mm} {H : Heap} (h : Hp x M H) {a : Nat} (ha : mK M a ≠ 0) : a < H.size := (h.1 a ha).1.lt
/-- a store to the cell a -/
theorem Hp.set {x : Cx} {M M' : Mm} {H H1 : Heap} {a : Nat} {c0 c1 : Cell} (h : Hp x M H) (hz : H1.size = H.size) (h0 : H[a]? = some c0) (h1 : H1[a]? = some c1) (hc : c1.slots.size = c0.slots.size) (o : ∀ q : Nat, q ≠ a → H1[q]? = H[q]?)
    (hK : mK M' = mK M) (hX : mX M' = mX M) (hS : mS M' = mS M) (hC : ∀ b, b ≠ a → mC x M' b = mC x M b) (ha : va_at (xD x) vwCl (a, mC x M' a) H1) : Hp x M' H1 := by
  obtain ⟨g1, g2, g3, g4, g5, g6⟩ := h
  refine ⟨fun b hb => ?_, by rw [hz, hX]; exact g2, by rw [hs_set hz h0 h1 hc o, hS]; exact g3, by rw [hX]; exact g4, by rw [hS]; exact g5, by rw [hX]; exact g6⟩
  rw [hK] at hb
  refine ⟨?_, fun h13 => (g1 b hb).2 (by rw [← hK]; exact h13)⟩
  by_cases hba : b = a
  · subst hba; exact ha
  · rw [hC b hba]
    exact (g1 b hb).1.kept (o b hba)
/-- a new cell -/
theorem Hp.new {x : Cx} {M M' : Mm} {H H1 : Heap} {c1 : Cell} {k n z : Nat} (h : Hp x M H) (hz : H1.size = H.size + 1) (h1 : H1[H.size]? = some c1) (hc : c1.slots.size = z) (o : ∀ q : Nat, q < H.size → H1[q]? = H[q]?)
    (hM : M' = nO M k n z) (hk : k ≠ 13) (hX : mX M + 1 ≤ xC x) (hS : mS M + z ≤ xL x) (ha : va_at (xD x) vwCl (mX M, mC x M' (mX M)) H1) : Hp x M' H1 := by
  obtain ⟨g1, g2, g3, g4, g5, g6⟩ := h
  subst hM
  refine ⟨fun b hb => ?_, by rw [hz, g2]; rfl, by rw [hs_new hz h1 o, g3, hc]; rfl, hX, hS, Nat.le_succ_of_le g6⟩
  by_cases hba : b = mX M
  · subst hba
    exact ⟨ha, fun _ => g6⟩
  · have hb' : mK M b ≠ 0 := by
      have e : mK (nO M k n z) b = mK M b := by simp [nO, mK, va_up, hba]
      rw [← e]; exact hb
    have hl := (g1 b hb').1.lt
    rw [mC_nO hba]
    refine ⟨(g1 b hb').1.kept (o b hl), fun h13 => (g1 b hb').2 ?_⟩
    have e : mK (nO M k n z) b = mK M b := by simp [nO, mK, va_up, hba]
    rw [← e]; exact h13
