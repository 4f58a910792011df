theorem nar_z {v : Int32} (h : v = 0 ∨ v = 1) : narrow .boolean (.int v) = .int v := by rcases h with rfl | rfl <;> decide +kernel
theorem fit_z {v : Int32} (h : v = 0 ∨ v = 1) : fits .boolean (.int v) = true := by rcases h with rfl | rfl <;> decide +kernel
section GoCalls2
variable {x : Cx} {K : Ct} {own : String} {cc : ByteArray} {nL pc fr lo : Nat} {ret0 : Option FieldType} {nm : String} {Q : State → Prop} {lv : List (Nat × Value)} {st st0 : List Value} {M M0 M1 : Mm} {rv : Option Value}
variable {y : MethodName} {bytes : ByteArray} {maxL n index fr' lo' b : Nat} {ret : Option FieldType} {As : List Value}
/-- the room of a call -/
theorem room_go {R : Room} {s : State} {H : Heap} {locs : List Loc} (hR : R = rmF x fr lo M0) (h4 : s.heap.size = mX M0) (h5 : hs s.heap = mS M0) (hw : Wo x M s H locs) (hsl : hs s.heap ≤ hs H) : (H.size - s.heap.size) + (xC x - mX M) ≤ R.cells ∧ (hs H - hs s.heap) + (xL x - mS M) ≤ R.slots := by
  obtain ⟨-, g2, g3, g4, g5, -⟩ := hw.1
  have hsz : s.heap.size ≤ H.size := hw.2.2.1
  rw [hR]
  refine ⟨?_, ?_⟩
  · show (H.size - s.heap.size) + (xC x - mX M) ≤ xC x - mX M0
    omega
  · show (hs H - hs s.heap) + (xL x - mS M) ≤ xL x - mS M0
    omega
theorem go_callS (hE : Ce x K own cc nL ret0 fr lo nm M0) (hF : Fn K.2.1 x y bytes maxL ret fr' lo' As M rv M1) (hy : okY y n) (hn : As.length = n)
    (hcode : Cond.code y bytes maxL ret ∈ wsL_law) (hlink : Cond.methodLink own index y ∈ wsL_law) (hstat : Cond.static y ∈ wsL_law) (hini : Cond.initialized y.cls ∈ wsL_law)
    (hst : st0 = As.reverse ++ st) (hcat : (st.map fun v => v.category).sum ≤ 8) (hfr : fr' + 1 ≤ fr) (hlo : 8 + (maxL + 11) + lo' ≤ lo) (d : decode cc pc = .ok (.invokestatic index, 3)) (k : Go x K nL Q (pc + 3) lv (rv.toList ++ st) M1) : Go x K nL Q pc lv st0 M := by
  obtain ⟨p, l, e, R, s, m, args, below, meth, c⟩ := K
  obtain ⟨⟨hx, hb, hml, hown, hts, hlk⟩, -, hR, h4, h5, h6, h7, -⟩ := hE
  intro H locs ls cells slots hl hw
  subst hst
  refine W.tight (fun hsl => run_go (va_runS (As := As) (rest := st) (n := n) (nL := nL) ⟨hx, hb, hml, hown, hts⟩ hF ⟨⟨rfl, rfl, ?_, ?_, pay9 hts hcode, List.mem_cons_self, hts _ hcode, hts _ hini, ⟨hy.1, hy.2.1⟩, okY_len hy, hts _ hlink⟩, hts _ hstat⟩ ⟨pcBlind, fun U hU hW => ⟨rfl, by rw [hU]; exact hw.1, by rw [hU]; exact hw.2.1.warm hW⟩⟩ rfl hn hl.1 rfl (lv_room hcat) d (room_go hR h4 h5 hw hsl)) hw (fun H1 locs1 cells1 slots1 hw1 => k H1 locs1 ls cells1 slots1 hl hw1))
  · have : R = rmF x fr lo M0 := hR
    rw [this]; exact hfr
  · have : R = rmF x fr lo M0 := hR
    rw [this]; exact hlo
theorem go_callSN {i : Nat} {host : String} (hE : Ce x K own cc nL ret0 fr lo nm M0) (hF : Fn K.2.1 x y bytes maxL ret fr' lo' As M rv M1) (hy : okY y n) (hn : As.length = n)
    (hcode : Cond.code y bytes maxL ret ∈ wsL_law) (hlink : nst[i]? = some (Cond.methodLinkNest own index y host)) (hstat : Cond.static y ∈ wsL_law) (hini : Cond.initialized y.cls ∈ wsL_law)
    (hst : st0 = As.reverse ++ st) (hcat : (st.map fun v => v.category).sum ≤ 8) (hfr : fr' + 1 ≤ fr) (hlo : 8 + (maxL + 11) + lo' ≤ lo) (d : decode cc pc = .ok (.invokestatic index, 3)) (k : Go x K nL Q (pc + 3) lv (rv.toList ++ st) M1) : Go x K nL Q pc lv st0 M := by
  obtain ⟨p, l, e, R, s, m, args, below, meth, c⟩ := K
  obtain ⟨⟨hx, hb, hml, hown, hts, hlk⟩, -, hR, h4, h5, h6, h7, -⟩ := hE
  intro H locs ls cells slots hl hw
  subst hst
  have hR' : R = rmF x fr lo M0 := hR
  refine W.tight (fun hsl => run_go (va_runSN (As := As) (rest := st) (n := n) (nL := nL) (host := host) ⟨hx, hb, hml, hown, hts⟩ hF ⟨⟨⟨rfl, rfl, by rw [hR']; exact hfr, by rw [hR']; exact hlo, pay9 hts hcode, List.mem_cons_self⟩, hts _ hcode, hts _ hini, ⟨hy.1, hy.2.1⟩, okY_len hy, va_Nw.use rfl (hw.2.1.2.1 _ (List.mem_of_getElem? hlink))⟩, hts _ hstat, trivial⟩ ⟨pcBlind, fun U hU hW => ⟨rfl, by rw [hU]; exact hw.1, by rw [hU]; exact hw.2.1.warm hW⟩⟩ rfl hn hl.1 rfl (lv_room hcat) d (room_go hR h4 h5 hw hsl)) hw (fun H1 locs1 cells1 slots1 hw1 => k H1 locs1 ls cells1 slots1 hl hw1))
theorem go_callI (hE : Ce x K own cc nL ret0 fr lo nm M0) (hF : Fn K.2.1 x y bytes maxL none fr' lo' (.ref b :: As) M rv M1) (hy : okY y n) (hn : As.length = n)
    (hcode : Cond.code y bytes maxL none ∈ wsL_law) (hlink : Cond.methodLink own index y ∈ wsL_law) (hinst : Cond.instanceMethod y ∈ wsL_law) (hy1 : y.name = "<init>") (hini : Cond.initialized y.cls ∈ wsL_law)
    (hst : st0 = As.reverse ++ .ref b :: st) (hcat : (st.map fun v => v.category).sum ≤ 8) (hfr : fr' + 1 ≤ fr) (hlo : 8 + (maxL + 11) + lo' ≤ lo) (d : decode cc pc = .ok (.invokespecial index, 3)) (k : Go x K nL Q (pc + 3) lv (rv.toList ++ st) M1) : Go x K nL Q pc lv st0 M := by
  obtain ⟨p, l, e, R, s, m, args, below, meth, c⟩ := K
  obtain ⟨⟨hx, hb, hml, hown, hts, hlk⟩, -, hR, h4, h5, h6, h7, -⟩ := hE
  intro H locs ls cells slots hl hw
  subst hst
  have hR' : R = rmF x fr lo M0 := hR
  refine W.tight (fun hsl => run_go (va_runI (As := As) (rest := st) (n := n) (nL := nL) ⟨hx, hb, hml, hown, hts⟩ hF ⟨⟨rfl, rfl, by rw [hR']; exact hfr, by rw [hR']; exact hlo, pay9 hts hcode, List.mem_cons_self, hts _ hcode, hts _ hini, ⟨hy.1, hy.2.1⟩, okY_len hy, hts _ hlink⟩, hy1, hts _ hinst⟩ ⟨pcBlind, fun U hU hW => ⟨rfl, by rw [hU]; exact hw.1, by rw [hU]; exact hw.2.1.warm hW⟩⟩ rfl hn hl.1 rfl (lv_room hcat) d (room_go hR h4 h5 hw hsl)) hw (fun H1 locs1 cells1 slots1 hw1 => k H1 locs1 ls cells1 slots1 hl hw1))
theorem go_callIN {i : Nat} {host : String} (hE : Ce x K own cc nL ret0 fr lo nm M0) (hF : Fn K.2.1 x y bytes maxL none fr' lo' (.ref b :: As) M rv M1) (hy : okY y n) (hn : As.length = n)
    (hcode : Cond.code y bytes maxL none ∈ wsL_law) (hlink : nst[i]? = some (Cond.methodLinkNest own index y host)) (hinst : Cond.instanceMethod y ∈ wsL_law) (hy1 : y.name = "<init>") (hini : Cond.initialized y.cls ∈ wsL_law)
    (hst : st0 = As.reverse ++ .ref b :: st) (hcat : (st.map fun v => v.category).sum ≤ 8) (hfr : fr' + 1 ≤ fr) (hlo : 8 + (maxL + 11) + lo' ≤ lo) (d : decode cc pc = .ok (.invokespecial index, 3)) (k : Go x K nL Q (pc + 3) lv (rv.toList ++ st) M1) : Go x K nL Q pc lv st0 M := by
  obtain ⟨p, l, e, R, s, m, args, below, meth, c⟩ := K
  obtain ⟨⟨hx, hb, hml, hown, hts, hlk⟩, -, hR, h4, h5, h6, h7, -⟩ := hE
  intro H locs ls cells slots hl hw
  subst hst
  have hR' : R = rmF x fr lo M0 := hR
  refine W.tight (fun hsl => run_go (va_runIN (As := As) (rest := st) (n := n) (nL := nL) (host := host) ⟨hx, hb, hml, hown, hts⟩ hF ⟨⟨⟨rfl, rfl, by rw [hR']; exact hfr, by rw [hR']; exact hlo, pay9 hts hcode, List.mem_cons_self⟩, hts _ hcode, hts _ hini, ⟨hy.1, hy.2.1⟩, okY_len hy, va_Nw.use rfl (hw.2.1.2.1 _ (List.mem_of_getElem? hlink))⟩, hy1, hts _ hinst⟩ ⟨pcBlind, fun U hU hW => ⟨rfl, by rw [hU]; exact hw.1, by rw [hU]; exact hw.2.1.warm hW⟩⟩ rfl hn hl.1 rfl (lv_room hcat) d (room_go hR h4 h5 hw hsl)) hw (fun H1 locs1 cells1 slots1 hw1 => k H1 locs1 ls cells1 slots1 hl hw1))
theorem go_objInit (hE : Ce x K own cc nL ret0 fr lo nm M0) (hlink : Cond.methodLink own index objectInit ∈ wsL_law) (hinst : Cond.instanceMethod objectInit ∈ wsL_law) (hcode : Cond.code objectInit ⟨#[0xb1]⟩ 1 none ∈ wsL_law) (d : decode cc pc = .ok (.invokespecial index, 3)) (hfr : 1 ≤ fr) (hlo : 20 ≤ lo) (hcat : (st.map fun v => v.category).sum ≤ 8)
    (k : Go x K nL Q (pc + 3) lv st M) : Go x K nL Q pc lv (.ref b :: st) M := by
  obtain ⟨p, l, e, R, s, m, args, below, meth, c⟩ := K
  obtain ⟨⟨hx, hb, hml, hown, hts, hlk⟩, -, hR, h4, h5, h6, h7, -⟩ := hE
  intro H locs ls cells slots hl hw
  have hR' : R = rmF x fr lo M0 := hR
  refine W.objInit hx hb hown (hts _ hlink) (hts _ hinst) (hts _ hcode) rfl (by rw [hml]; exact hl.1) rfl d (by rw [hR']; exact hfr) ?_ (k H locs ls cells slots hl hw)
  rw [hR']
  show 2 * (F0 m pc ls (Value.ref b :: st)).monitorRoom + (st.map fun v => v.category).sum + 12 ≤ lo
  have h10 : 2 * (F0 m pc ls (Value.ref b :: st)).monitorRoom + (st.map fun v => v.category).sum ≤ 8 := lv_room hcat
  omega
end GoCalls2
