/-! THE WALK: Go x K nL Q pc lv st M: at pc, with the locals lv, the stack st and any heap that holds the memory M, the machine comes to Q. K: the invocation. -/
abbrev Ct : Type := Program × Launch × Env × Room × State × MethodId × Array Value × List Frame × Method × Code
def Wo (x : Cx) (M : Mm) (s : State) (H : Heap) (locs : List Loc) : Prop := Hp x M H ∧ Zs x s H ∧ va_S (xA x) s.heap H locs
def Go (x : Cx) (K : Ct) (nL : Nat) (Q : State → Prop) (pc : Nat) (lv : List (Nat × Value)) (st : List Value) (M : Mm) : Prop :=
  ∀ (H : Heap) (locs : List Loc) (ls : Array Slot) (cells slots : Nat), lv_has ls nL lv → Wo x M K.2.2.2.2.1 H locs → W K.1 K.2.1 K.2.2.1 K.2.2.2.1 K.2.2.2.2.1 K.2.2.2.2.2.1 K.2.2.2.2.2.2.1 K.2.2.2.2.2.2.2.1 K.2.2.2.2.2.2.2.2.1 K.2.2.2.2.2.2.2.2.2 H locs cells slots Q (F0 K.2.2.2.2.2.1 pc ls st)
/-- what is known of an invocation of the method with the code cc, of the class own -/
def Cb (K : Ct) (own : String) (cc : ByteArray) (nL : Nat) : Prop := K.1.tables.exec = Jvm.exec ∧ K.2.2.2.2.2.2.2.2.2.code = cc ∧ K.2.2.2.2.2.2.2.2.2.maxLocals = nL ∧ K.2.2.2.2.1.vm.findClass own = some K.2.2.2.2.2.1.cls ∧ (∀ w ∈ wsL_law, w.before K.2.2.2.2.2.2.1 K.2.2.2.2.1 = true) ∧ K.2.2.2.2.2.2.2.2.1.locks = false
theorem os_1 {α : Type} {c : Prop} {d : Decidable c} {a : Option α} {y : α} (h : (if c then a else none) = some y) : c ∧ a = some y := by
  by_cases hc : c
  · rw [if_pos hc] at h; exact ⟨hc, h⟩
  · rw [if_neg hc] at h; cases h
theorem os_t {α : Type} {c : Prop} {d : Decidable c} {a b y : α} (h : (if c then a else b) = y) (hc : c) : a = y := by rw [if_pos hc] at h; exact h
theorem os_f {α : Type} {c : Prop} {d : Decidable c} {a b y : α} (h : (if c then a else b) = y) (hc : ¬ c) : b = y := by rw [if_neg hc] at h; exact h
/-- a value that must be there -/
def ob1 {α β : Type} (q : Option α) (g : α → Option β) : Option β := match q with
  | none => none
  | some a => g a
theorem os_b {α β : Type} {q : Option α} {g : α → Option β} {y : β} (h : ob1 q g = some y) : ∃ a, q = some a ∧ g a = some y := by
  cases q with
  | none => cases h
  | some a => exact ⟨a, rfl, h⟩
/-- a call's answer and the memory behind it -/
def ob2 {α β : Type} (q : Option (α × Mm)) (g : α → Mm → Option β) : Option β := match q with
  | none => none
  | some a => g a.1 a.2
theorem os_c {α β : Type} {q : Option (α × Mm)} {g : α → Mm → Option β} {y : β} (h : ob2 q g = some y) : ∃ a M, q = some (a, M) ∧ g a M = some y := by
  cases q with
  | none => cases h
  | some a => exact ⟨a.1, a.2, rfl, h⟩
/-- a memory by a name -/
def lt1 {β : Type} (M : Mm) (g : Mm → Option β) : Option β := g M
theorem os_l {β : Type} {M : Mm} {g : Mm → Option β} {y : β} (h : lt1 M g = some y) : ∃ M1, M1 = M ∧ g M1 = some y := ⟨M, rfl, h⟩
theorem rf_some {r : Option Nat} {b : Nat} (h : r = some b) : some (va_rf r) = some (Value.ref b) := by rw [h]; rfl
section Rows
variable {x : Cx} {K : Ct} {own : String} {cc : ByteArray} {nL pc : Nat} {Q : State → Prop} {lv : List (Nat × Value)} {st : List Value} {M : Mm}
theorem go_eq {pc' : Nat} {lv' : List (Nat × Value)} {st' : List Value} {M' : Mm} (k : Go x K nL Q pc' lv' st' M') (h1 : pc' = pc) (h2 : lv' = lv) (h3 : st' = st) (h4 : M' = M) : Go x K nL Q pc lv st M := by subst h1 h2 h3 h4; exact k
theorem go_sub {lv' : List (Nat × Value)} (ks : List Nat) (hl : lv_pick lv ks = lv') (k : Go x K nL Q pc lv' st M) : Go x K nL Q pc lv st M := fun H locs ls cells slots h hw => k H locs ls cells slots (lv_sub h ks hl) hw
theorem go_iconst {n : Int} {v : Int32} (hC : Cb K own cc nL) (d : decode cc pc = .ok (.iconst n, 1)) (hv : Int32.ofInt n = v) (k : Go x K nL Q (pc + 1) lv (.int v :: st) M) : Go x K nL Q pc lv st M := by
  obtain ⟨p, l, e, R, s, m, args, below, meth, c⟩ := K
  obtain ⟨hx, hb, hml, hown, hts, hlk⟩ := hC
  intro H locs ls cells slots hl hw
  exact lv_iconst hx hb d hv (k H locs ls cells slots hl hw)
theorem go_bipush {n : Int} {v : Int32} (hC : Cb K own cc nL) (d : decode cc pc = .ok (.bipush n, 2)) (hv : (Int8.ofInt n).toInt32 = v) (k : Go x K nL Q (pc + 2) lv (.int v :: st) M) : Go x K nL Q pc lv st M := by
  obtain ⟨p, l, e, R, s, m, args, below, meth, c⟩ := K
  obtain ⟨hx, hb, hml, hown, hts, hlk⟩ := hC
  intro H locs ls cells slots hl hw
  exact lv_bipush hx hb d hv (k H locs ls cells slots hl hw)
theorem go_sipush {n : Int} {v : Int32} (hC : Cb K own cc nL) (d : decode cc pc = .ok (.sipush n, 3)) (hv : (Int16.ofInt n).toInt32 = v) (k : Go x K nL Q (pc + 3) lv (.int v :: st) M) : Go x K nL Q pc lv st M := by
  obtain ⟨p, l, e, R, s, m, args, below, meth, c⟩ := K
  obtain ⟨hx, hb, hml, hown, hts, hlk⟩ := hC
  intro H locs ls cells slots hl hw
  exact lv_sipush hx hb d hv (k H locs ls cells slots hl hw)
theorem go_lconst {n : Fin 2} {v : Int64} (hC : Cb K own cc nL) (d : decode cc pc = .ok (.lconst n, 1)) (hv : Int64.ofNat (n : Nat) = v) (k : Go x K nL Q (pc + 1) lv (.long v :: st) M) : Go x K nL Q pc lv st M := by
  obtain ⟨p, l, e, R, s, m, args, below, meth, c⟩ := K
  obtain ⟨hx, hb, hml, hown, hts, hlk⟩ := hC
  intro H locs ls cells slots hl hw
  exact lv_lconst hx hb d hv (k H locs ls cells slots hl hw)
theorem go_ldc {i : Nat} {v : Int32} (hC : Cb K own cc nL) (hw : Jvm.Cond.constant own i v ∈ wsL_law) (d : decode cc pc = .ok (.ldc i, 2)) (k : Go x K nL Q (pc + 2) lv (.int v :: st) M) : Go x K nL Q pc lv st M := by
  obtain ⟨p, l, e, R, s, m, args, below, meth, c⟩ := K
  obtain ⟨hx, hb, hml, hown, hts, hlk⟩ := hC
  intro H locs ls cells slots hl hw
  exact lv_ldc hx hb hown (hts _ ‹_›) d (k H locs ls cells slots hl hw)
theorem go_null (hC : Cb K own cc nL) (d : decode cc pc = .ok (.aconst_null, 1)) (k : Go x K nL Q (pc + 1) lv (.null :: st) M) : Go x K nL Q pc lv st M := by
  obtain ⟨p, l, e, R, s, m, args, below, meth, c⟩ := K
  obtain ⟨hx, hb, hml, hown, hts, hlk⟩ := hC
  intro H locs ls cells slots hl hw
  exact lv_null hx hb d (k H locs ls cells slots hl hw)
theorem go_iload_n {j : Fin 4} {i : Nat} {v : Int32} (hC : Cb K own cc nL) (d : decode cc pc = .ok (.iload_n j, 1)) (hi : (j : Nat) = i) (q : Nat) (hq : lv[q]? = some (i, .int v)) (k : Go x K nL Q (pc + 1) lv (.int v :: st) M) : Go x K nL Q pc lv st M := by
  obtain ⟨p, l, e, R, s, m, args, below, meth, c⟩ := K
  obtain ⟨hx, hb, hml, hown, hts, hlk⟩ := hC
  intro H locs ls cells slots hl hw
  exact lv_iload_n hx hb d hi (lv_at hl q hq) (k H locs ls cells slots hl hw)
theorem go_iload {i : Nat} {v : Int32} (hC : Cb K own cc nL) (d : decode cc pc = .ok (.iload i, 2)) (q : Nat) (hq : lv[q]? = some (i, .int v)) (k : Go x K nL Q (pc + 2) lv (.int v :: st) M) : Go x K nL Q pc lv st M := by
  obtain ⟨p, l, e, R, s, m, args, below, meth, c⟩ := K
  obtain ⟨hx, hb, hml, hown, hts, hlk⟩ := hC
  intro H locs ls cells slots hl hw
  exact lv_iload hx hb d (lv_at hl q hq) (k H locs ls cells slots hl hw)
theorem go_istore_n {j : Fin 4} {i : Nat} {v : Int32} {lv' : List (Nat × Value)} (hC : Cb K own cc nL) (d : decode cc pc = .ok (.istore_n j, 1)) (hi : (j : Nat) = i) (hn : i < nL) (hf : (i, Value.int v) :: lv.filter (fun q => !(q.1 == i) && !(q.1 + 1 == i && q.2.category == 2)) = lv') (k : Go x K nL Q (pc + 1) lv' st M) : Go x K nL Q pc lv (.int v :: st) M := by
  obtain ⟨p, l, e, R, s, m, args, below, meth, c⟩ := K
  obtain ⟨hx, hb, hml, hown, hts, hlk⟩ := hC
  intro H locs ls cells slots hl hw
  exact lv_istore_n hx hb d hi hl hn hf (fun ls hl => k H locs ls cells slots hl hw)
theorem go_istore {i : Nat} {v : Int32} {lv' : List (Nat × Value)} (hC : Cb K own cc nL) (d : decode cc pc = .ok (.istore i, 2)) (hn : i < nL) (hf : (i, Value.int v) :: lv.filter (fun q => !(q.1 == i) && !(q.1 + 1 == i && q.2.category == 2)) = lv') (k : Go x K nL Q (pc + 2) lv' st M) : Go x K nL Q pc lv (.int v :: st) M := by
  obtain ⟨p, l, e, R, s, m, args, below, meth, c⟩ := K
  obtain ⟨hx, hb, hml, hown, hts, hlk⟩ := hC
  intro H locs ls cells slots hl hw
  exact lv_istore hx hb d hl hn hf (fun ls hl => k H locs ls cells slots hl hw)
theorem go_aload_n {j : Fin 4} {i : Nat} {v : Nat} (hC : Cb K own cc nL) (d : decode cc pc = .ok (.aload_n j, 1)) (hi : (j : Nat) = i) (q : Nat) (hq : lv[q]? = some (i, .ref v)) (k : Go x K nL Q (pc + 1) lv (.ref v :: st) M) : Go x K nL Q pc lv st M := by
  obtain ⟨p, l, e, R, s, m, args, below, meth, c⟩ := K
  obtain ⟨hx, hb, hml, hown, hts, hlk⟩ := hC
  intro H locs ls cells slots hl hw
  exact lv_aload_n hx hb d hi (lv_at hl q hq) (k H locs ls cells slots hl hw)
theorem go_aload {i : Nat} {v : Nat} (hC : Cb K own cc nL) (d : decode cc pc = .ok (.aload i, 2)) (q : Nat) (hq : lv[q]? = some (i, .ref v)) (k : Go x K nL Q (pc + 2) lv (.ref v :: st) M) : Go x K nL Q pc lv st M := by
  obtain ⟨p, l, e, R, s, m, args, below, meth, c⟩ := K
  obtain ⟨hx, hb, hml, hown, hts, hlk⟩ := hC
  intro H locs ls cells slots hl hw
  exact lv_aload hx hb d (lv_at hl q hq) (k H locs ls cells slots hl hw)
theorem go_astore_n {j : Fin 4} {i : Nat} {v : Nat} {lv' : List (Nat × Value)} (hC : Cb K own cc nL) (d : decode cc pc = .ok (.astore_n j, 1)) (hi : (j : Nat) = i) (hn : i < nL) (hf : (i, Value.ref v) :: lv.filter (fun q => !(q.1 == i) && !(q.1 + 1 == i && q.2.category == 2)) = lv') (k : Go x K nL Q (pc + 1) lv' st M) : Go x K nL Q pc lv (.ref v :: st) M := by
  obtain ⟨p, l, e, R, s, m, args, below, meth, c⟩ := K
  obtain ⟨hx, hb, hml, hown, hts, hlk⟩ := hC
  intro H locs ls cells slots hl hw
  exact lv_astore_n hx hb d hi hl hn hf (fun ls hl => k H locs ls cells slots hl hw)
theorem go_astore {i : Nat} {v : Nat} {lv' : List (Nat × Value)} (hC : Cb K own cc nL) (d : decode cc pc = .ok (.astore i, 2)) (hn : i < nL) (hf : (i, Value.ref v) :: lv.filter (fun q => !(q.1 == i) && !(q.1 + 1 == i && q.2.category == 2)) = lv') (k : Go x K nL Q (pc + 2) lv' st M) : Go x K nL Q pc lv (.ref v :: st) M := by
  obtain ⟨p, l, e, R, s, m, args, below, meth, c⟩ := K
  obtain ⟨hx, hb, hml, hown, hts, hlk⟩ := hC
  intro H locs ls cells slots hl hw
  exact lv_astore hx hb d hl hn hf (fun ls hl => k H locs ls cells slots hl hw)
theorem go_iinc {i q : Nat} {n : Int} {a v : Int32} {lv' : List (Nat × Value)} (hC : Cb K own cc nL) (d : decode cc pc = .ok (.iinc i n, 3)) (hq : lv[q]? = some (i, .int a)) (hv : a + Int32.ofInt n = v) (hn : i < nL) (hf : (i, Value.int v) :: lv.filter (fun q => !(q.1 == i) && !(q.1 + 1 == i && q.2.category == 2)) = lv') (k : Go x K nL Q (pc + 3) lv' st M) : Go x K nL Q pc lv st M := by
  obtain ⟨p, l, e, R, s, m, args, below, meth, c⟩ := K
  obtain ⟨hx, hb, hml, hown, hts, hlk⟩ := hC
  intro H locs ls cells slots hl hw
  exact lv_iinc hx hb d hl hq hv hn hf (fun ls hl => k H locs ls cells slots hl hw)
theorem go_iadd {a b : Int32} (hC : Cb K own cc nL) (d : decode cc pc = .ok (.iadd, 1)) (k : Go x K nL Q (pc + 1) lv (.int (a + b) :: st) M) : Go x K nL Q pc lv (.int b :: .int a :: st) M := by
  obtain ⟨p, l, e, R, s, m, args, below, meth, c⟩ := K
  obtain ⟨hx, hb, hml, hown, hts, hlk⟩ := hC
  intro H locs ls cells slots hl hw
  exact lv_iadd hx hb d (k H locs ls cells slots hl hw)
theorem go_isub {a b : Int32} (hC : Cb K own cc nL) (d : decode cc pc = .ok (.isub, 1)) (k : Go x K nL Q (pc + 1) lv (.int (a - b) :: st) M) : Go x K nL Q pc lv (.int b :: .int a :: st) M := by
  obtain ⟨p, l, e, R, s, m, args, below, meth, c⟩ := K
  obtain ⟨hx, hb, hml, hown, hts, hlk⟩ := hC
  intro H locs ls cells slots hl hw
  exact lv_isub hx hb d (k H locs ls cells slots hl hw)
theorem go_imul {a b : Int32} (hC : Cb K own cc nL) (d : decode cc pc = .ok (.imul, 1)) (k : Go x K nL Q (pc + 1) lv (.int (a * b) :: st) M) : Go x K nL Q pc lv (.int b :: .int a :: st) M := by
  obtain ⟨p, l, e, R, s, m, args, below, meth, c⟩ := K
  obtain ⟨hx, hb, hml, hown, hts, hlk⟩ := hC
  intro H locs ls cells slots hl hw
  exact lv_imul hx hb d (k H locs ls cells slots hl hw)
theorem go_iand {a b : Int32} (hC : Cb K own cc nL) (d : decode cc pc = .ok (.iand, 1)) (k : Go x K nL Q (pc + 1) lv (.int (a &&& b) :: st) M) : Go x K nL Q pc lv (.int b :: .int a :: st) M := by
  obtain ⟨p, l, e, R, s, m, args, below, meth, c⟩ := K
  obtain ⟨hx, hb, hml, hown, hts, hlk⟩ := hC
  intro H locs ls cells slots hl hw
  exact lv_iand hx hb d (k H locs ls cells slots hl hw)
theorem go_ior {a b : Int32} (hC : Cb K own cc nL) (d : decode cc pc = .ok (.ior, 1)) (k : Go x K nL Q (pc + 1) lv (.int (a ||| b) :: st) M) : Go x K nL Q pc lv (.int b :: .int a :: st) M := by
  obtain ⟨p, l, e, R, s, m, args, below, meth, c⟩ := K
  obtain ⟨hx, hb, hml, hown, hts, hlk⟩ := hC
  intro H locs ls cells slots hl hw
  exact lv_ior hx hb d (k H locs ls cells slots hl hw)
theorem go_ixor {a b : Int32} (hC : Cb K own cc nL) (d : decode cc pc = .ok (.ixor, 1)) (k : Go x K nL Q (pc + 1) lv (.int (a ^^^ b) :: st) M) : Go x K nL Q pc lv (.int b :: .int a :: st) M := by
  obtain ⟨p, l, e, R, s, m, args, below, meth, c⟩ := K
  obtain ⟨hx, hb, hml, hown, hts, hlk⟩ := hC
  intro H locs ls cells slots hl hw
  exact lv_ixor hx hb d (k H locs ls cells slots hl hw)
theorem go_ishl {a b : Int32} (hC : Cb K own cc nL) (d : decode cc pc = .ok (.ishl, 1)) (k : Go x K nL Q (pc + 1) lv (.int (a <<< (b &&& 31)) :: st) M) : Go x K nL Q pc lv (.int b :: .int a :: st) M := by
  obtain ⟨p, l, e, R, s, m, args, below, meth, c⟩ := K
  obtain ⟨hx, hb, hml, hown, hts, hlk⟩ := hC
  intro H locs ls cells slots hl hw
  exact lv_ishl hx hb d (k H locs ls cells slots hl hw)
theorem go_ishr {a b : Int32} (hC : Cb K own cc nL) (d : decode cc pc = .ok (.ishr, 1)) (k : Go x K nL Q (pc + 1) lv (.int (a >>> (b &&& 31)) :: st) M) : Go x K nL Q pc lv (.int b :: .int a :: st) M := by
  obtain ⟨p, l, e, R, s, m, args, below, meth, c⟩ := K
  obtain ⟨hx, hb, hml, hown, hts, hlk⟩ := hC
  intro H locs ls cells slots hl hw
  exact lv_ishr hx hb d (k H locs ls cells slots hl hw)
theorem go_iushr {a b : Int32} (hC : Cb K own cc nL) (d : decode cc pc = .ok (.iushr, 1)) (k : Go x K nL Q (pc + 1) lv (.int ((a.toUInt32 >>> (b.toUInt32 &&& Int32.toUInt32 31)).toInt32) :: st) M) : Go x K nL Q pc lv (.int b :: .int a :: st) M := by
  obtain ⟨p, l, e, R, s, m, args, below, meth, c⟩ := K
  obtain ⟨hx, hb, hml, hown, hts, hlk⟩ := hC
  intro H locs ls cells slots hl hw
  exact lv_iushr hx hb d rfl (k H locs ls cells slots hl hw)
theorem go_irem {a b : Int32} (hC : Cb K own cc nL) (d : decode cc pc = .ok (.irem, 1)) (hne : ¬ b = 0) (k : Go x K nL Q (pc + 1) lv (.int (a - a / b * b) :: st) M) : Go x K nL Q pc lv (.int b :: .int a :: st) M := by
  obtain ⟨p, l, e, R, s, m, args, below, meth, c⟩ := K
  obtain ⟨hx, hb, hml, hown, hts, hlk⟩ := hC
  intro H locs ls cells slots hl hw
  exact lv_irem hx hb d hne (k H locs ls cells slots hl hw)
theorem go_i2l {a : Int32} (hC : Cb K own cc nL) (d : decode cc pc = .ok (.i2l, 1)) (k : Go x K nL Q (pc + 1) lv (.long a.toInt64 :: st) M) : Go x K nL Q pc lv (.int a :: st) M := by
  obtain ⟨p, l, e, R, s, m, args, below, meth, c⟩ := K
  obtain ⟨hx, hb, hml, hown, hts, hlk⟩ := hC
  intro H locs ls cells slots hl hw
  exact lv_i2l hx hb d rfl (k H locs ls cells slots hl hw)
theorem go_lcmp {a b : Int64} (hC : Cb K own cc nL) (d : decode cc pc = .ok (.lcmp, 1)) (k : Go x K nL Q (pc + 1) lv (.int (lg_cmp a b) :: st) M) : Go x K nL Q pc lv (.long b :: .long a :: st) M := by
  obtain ⟨p, l, e, R, s, m, args, below, meth, c⟩ := K
  obtain ⟨hx, hb, hml, hown, hts, hlk⟩ := hC
  intro H locs ls cells slots hl hw
  exact W.lcmp hx hb d (k H locs ls cells slots hl hw)
theorem go_dup {va : Value} (hC : Cb K own cc nL) (d : decode cc pc = .ok (.dup, 1)) (hva : va.category = 1) (k : Go x K nL Q (pc + 1) lv (va :: va :: st) M) : Go x K nL Q pc lv (va :: st) M := by
  obtain ⟨p, l, e, R, s, m, args, below, meth, c⟩ := K
  obtain ⟨hx, hb, hml, hown, hts, hlk⟩ := hC
  intro H locs ls cells slots hl hw
  exact lv_dup hx hb d hva (k H locs ls cells slots hl hw)
theorem go_pop {va : Value} (hC : Cb K own cc nL) (d : decode cc pc = .ok (.pop, 1)) (hva : va.category = 1) (k : Go x K nL Q (pc + 1) lv st M) : Go x K nL Q pc lv (va :: st) M := by
  obtain ⟨p, l, e, R, s, m, args, below, meth, c⟩ := K
  obtain ⟨hx, hb, hml, hown, hts, hlk⟩ := hC
  intro H locs ls cells slots hl hw
  exact lv_pop hx hb d hva (k H locs ls cells slots hl hw)
theorem go_dup_x1 {va vb : Value} (hC : Cb K own cc nL) (d : decode cc pc = .ok (.dup_x1, 1)) (hva : va.category = 1) (hvb : vb.category = 1) (k : Go x K nL Q (pc + 1) lv (va :: vb :: va :: st) M) : Go x K nL Q pc lv (va :: vb :: st) M := by
  obtain ⟨p, l, e, R, s, m, args, below, meth, c⟩ := K
  obtain ⟨hx, hb, hml, hown, hts, hlk⟩ := hC
  intro H locs ls cells slots hl hw
  exact lv_dup_x1 hx hb d hva hvb (k H locs ls cells slots hl hw)
theorem go_dup2 {va vb : Value} (hC : Cb K own cc nL) (d : decode cc pc = .ok (.dup2, 1)) (hva : va.category = 1) (hvb : vb.category = 1) (k : Go x K nL Q (pc + 1) lv (va :: vb :: va :: vb :: st) M) : Go x K nL Q pc lv (va :: vb :: st) M := by
  obtain ⟨p, l, e, R, s, m, args, below, meth, c⟩ := K
  obtain ⟨hx, hb, hml, hown, hts, hlk⟩ := hC
  intro H locs ls cells slots hl hw
  exact lv_dup2_11 hx hb d hva hvb (k H locs ls cells slots hl hw)
theorem go_goto {off : Int} {t : Nat} (hC : Cb K own cc nL) (d : decode cc pc = .ok (.goto off, 3)) (ht : (pc : Int) + off = (t : Int)) (k : Go x K nL Q t lv st M) : Go x K nL Q pc lv st M := by
  obtain ⟨p, l, e, R, s, m, args, below, meth, c⟩ := K
  obtain ⟨hx, hb, hml, hown, hts, hlk⟩ := hC
  intro H locs ls cells slots hl hw
  exact lv_goto hx hb d ht (k H locs ls cells slots hl hw)
theorem go_if_eq {a : Int32} {off : Int} {t : Nat} (hC : Cb K own cc nL) (d : decode cc pc = .ok (.ifCond .eq off, 3)) (ht : (pc : Int) + off = (t : Int)) (kt : a = 0 → Go x K nL Q t lv st M) (kf : ¬ (a = 0) → Go x K nL Q (pc + 3) lv st M) : Go x K nL Q pc lv (.int a :: st) M := by
  obtain ⟨p, l, e, R, s, m, args, below, meth, c⟩ := K
  obtain ⟨hx, hb, hml, hown, hts, hlk⟩ := hC
  intro H locs ls cells slots hl hw
  exact lv_if_eq hx hb d ht (fun q => kt q H locs ls cells slots hl hw) (fun q => kf q H locs ls cells slots hl hw)
theorem go_icmp_eq {a b : Int32} {off : Int} {t : Nat} (hC : Cb K own cc nL) (d : decode cc pc = .ok (.if_icmp .eq off, 3)) (ht : (pc : Int) + off = (t : Int)) (kt : a = b → Go x K nL Q t lv st M) (kf : ¬ (a = b) → Go x K nL Q (pc + 3) lv st M) : Go x K nL Q pc lv (.int b :: .int a :: st) M := by
  obtain ⟨p, l, e, R, s, m, args, below, meth, c⟩ := K
  obtain ⟨hx, hb, hml, hown, hts, hlk⟩ := hC
  intro H locs ls cells slots hl hw
  exact lv_icmp_eq hx hb d ht (fun q => kt q H locs ls cells slots hl hw) (fun q => kf q H locs ls cells slots hl hw)
theorem go_if_lt {a : Int32} {off : Int} {t : Nat} (hC : Cb K own cc nL) (d : decode cc pc = .ok (.ifCond .lt off, 3)) (ht : (pc : Int) + off = (t : Int)) (kt : a < 0 → Go x K nL Q t lv st M) (kf : ¬ (a < 0) → Go x K nL Q (pc + 3) lv st M) : Go x K nL Q pc lv (.int a :: st) M := by
  obtain ⟨p, l, e, R, s, m, args, below, meth, c⟩ := K
  obtain ⟨hx, hb, hml, hown, hts, hlk⟩ := hC
  intro H locs ls cells slots hl hw
  exact lv_if_lt hx hb d ht (fun q => kt q H locs ls cells slots hl hw) (fun q => kf q H locs ls cells slots hl hw)
theorem go_icmp_lt {a b : Int32} {off : Int} {t : Nat} (hC : Cb K own cc nL) (d : decode cc pc = .ok (.if_icmp .lt off, 3)) (ht : (pc : Int) + off = (t : Int)) (kt : a < b → Go x K nL Q t lv st M) (kf : ¬ (a < b) → Go x K nL Q (pc + 3) lv st M) : Go x K nL Q pc lv (.int b :: .int a :: st) M := by
  obtain ⟨p, l, e, R, s, m, args, below, meth, c⟩ := K
  obtain ⟨hx, hb, hml, hown, hts, hlk⟩ := hC
  intro H locs ls cells slots hl hw
  exact lv_icmp_lt hx hb d ht (fun q => kt q H locs ls cells slots hl hw) (fun q => kf q H locs ls cells slots hl hw)
theorem go_if_ge {a : Int32} {off : Int} {t : Nat} (hC : Cb K own cc nL) (d : decode cc pc = .ok (.ifCond .ge off, 3)) (ht : (pc : Int) + off = (t : Int)) (kt : 0 ≤ a → Go x K nL Q t lv st M) (kf : ¬ (0 ≤ a) → Go x K nL Q (pc + 3) lv st M) : Go x K nL Q pc lv (.int a :: st) M := by
  obtain ⟨p, l, e, R, s, m, args, below, meth, c⟩ := K
  obtain ⟨hx, hb, hml, hown, hts, hlk⟩ := hC
  intro H locs ls cells slots hl hw
  exact lv_if_ge hx hb d ht (fun q => kt q H locs ls cells slots hl hw) (fun q => kf q H locs ls cells slots hl hw)
theorem go_icmp_ge {a b : Int32} {off : Int} {t : Nat} (hC : Cb K own cc nL) (d : decode cc pc = .ok (.if_icmp .ge off, 3)) (ht : (pc : Int) + off = (t : Int)) (kt : b ≤ a → Go x K nL Q t lv st M) (kf : ¬ (b ≤ a) → Go x K nL Q (pc + 3) lv st M) : Go x K nL Q pc lv (.int b :: .int a :: st) M := by
  obtain ⟨p, l, e, R, s, m, args, below, meth, c⟩ := K
  obtain ⟨hx, hb, hml, hown, hts, hlk⟩ := hC
  intro H locs ls cells slots hl hw
  exact lv_icmp_ge hx hb d ht (fun q => kt q H locs ls cells slots hl hw) (fun q => kf q H locs ls cells slots hl hw)
theorem go_if_gt {a : Int32} {off : Int} {t : Nat} (hC : Cb K own cc nL) (d : decode cc pc = .ok (.ifCond .gt off, 3)) (ht : (pc : Int) + off = (t : Int)) (kt : 0 < a → Go x K nL Q t lv st M) (kf : ¬ (0 < a) → Go x K nL Q (pc + 3) lv st M) : Go x K nL Q pc lv (.int a :: st) M := by
  obtain ⟨p, l, e, R, s, m, args, below, meth, c⟩ := K
  obtain ⟨hx, hb, hml, hown, hts, hlk⟩ := hC
  intro H locs ls cells slots hl hw
  exact lv_if_gt hx hb d ht (fun q => kt q H locs ls cells slots hl hw) (fun q => kf q H locs ls cells slots hl hw)
theorem go_icmp_gt {a b : Int32} {off : Int} {t : Nat} (hC : Cb K own cc nL) (d : decode cc pc = .ok (.if_icmp .gt off, 3)) (ht : (pc : Int) + off = (t : Int)) (kt : b < a → Go x K nL Q t lv st M) (kf : ¬ (b < a) → Go x K nL Q (pc + 3) lv st M) : Go x K nL Q pc lv (.int b :: .int a :: st) M := by
  obtain ⟨p, l, e, R, s, m, args, below, meth, c⟩ := K
  obtain ⟨hx, hb, hml, hown, hts, hlk⟩ := hC
  intro H locs ls cells slots hl hw
  exact lv_icmp_gt hx hb d ht (fun q => kt q H locs ls cells slots hl hw) (fun q => kf q H locs ls cells slots hl hw)
theorem go_if_le {a : Int32} {off : Int} {t : Nat} (hC : Cb K own cc nL) (d : decode cc pc = .ok (.ifCond .le off, 3)) (ht : (pc : Int) + off = (t : Int)) (kt : a ≤ 0 → Go x K nL Q t lv st M) (kf : ¬ (a ≤ 0) → Go x K nL Q (pc + 3) lv st M) : Go x K nL Q pc lv (.int a :: st) M := by
  obtain ⟨p, l, e, R, s, m, args, below, meth, c⟩ := K
  obtain ⟨hx, hb, hml, hown, hts, hlk⟩ := hC
  intro H locs ls cells slots hl hw
  exact lv_if_le hx hb d ht (fun q => kt q H locs ls cells slots hl hw) (fun q => kf q H locs ls cells slots hl hw)
theorem go_icmp_le {a b : Int32} {off : Int} {t : Nat} (hC : Cb K own cc nL) (d : decode cc pc = .ok (.if_icmp .le off, 3)) (ht : (pc : Int) + off = (t : Int)) (kt : a ≤ b → Go x K nL Q t lv st M) (kf : ¬ (a ≤ b) → Go x K nL Q (pc + 3) lv st M) : Go x K nL Q pc lv (.int b :: .int a :: st) M := by
  obtain ⟨p, l, e, R, s, m, args, below, meth, c⟩ := K
  obtain ⟨hx, hb, hml, hown, hts, hlk⟩ := hC
  intro H locs ls cells slots hl hw
  exact lv_icmp_le hx hb d ht (fun q => kt q H locs ls cells slots hl hw) (fun q => kf q H locs ls cells slots hl hw)
theorem go_if_ne {a : Int32} {off : Int} {t : Nat} (hC : Cb K own cc nL) (d : decode cc pc = .ok (.ifCond .ne off, 3)) (ht : (pc : Int) + off = (t : Int)) (kt : ¬ (a = 0) → Go x K nL Q t lv st M) (kf : a = 0 → Go x K nL Q (pc + 3) lv st M) : Go x K nL Q pc lv (.int a :: st) M := by
  obtain ⟨p, l, e, R, s, m, args, below, meth, c⟩ := K
  obtain ⟨hx, hb, hml, hown, hts, hlk⟩ := hC
  intro H locs ls cells slots hl hw
  exact lv_if_ne hx hb d ht (fun q => kt q H locs ls cells slots hl hw) (fun q => kf q H locs ls cells slots hl hw)
theorem go_icmp_ne {a b : Int32} {off : Int} {t : Nat} (hC : Cb K own cc nL) (d : decode cc pc = .ok (.if_icmp .ne off, 3)) (ht : (pc : Int) + off = (t : Int)) (kt : ¬ (a = b) → Go x K nL Q t lv st M) (kf : a = b → Go x K nL Q (pc + 3) lv st M) : Go x K nL Q pc lv (.int b :: .int a :: st) M := by
  obtain ⟨p, l, e, R, s, m, args, below, meth, c⟩ := K
  obtain ⟨hx, hb, hml, hown, hts, hlk⟩ := hC
  intro H locs ls cells slots hl hw
  exact lv_icmp_ne hx hb d ht (fun q => kt q H locs ls cells slots hl hw) (fun q => kf q H locs ls cells slots hl hw)
theorem go_tabIn {a : Int32} {dflt lo hi off : Int} {offs : Array Int} {len t : Nat} (hC : Cb K own cc nL) (d : decode cc pc = .ok (.tableswitch dflt lo hi offs, len)) (h1 : ¬ a.toInt < lo) (h2 : ¬ hi < a.toInt) (ho : offs[(a.toInt - lo).toNat]? = some off) (ht : (pc : Int) + off = (t : Int)) (k : Go x K nL Q t lv st M) : Go x K nL Q pc lv (.int a :: st) M := by
  obtain ⟨p, l, e, R, s, m, args, below, meth, c⟩ := K
  obtain ⟨hx, hb, hml, hown, hts, hlk⟩ := hC
  intro H locs ls cells slots hl hw
  exact lv_tableIn hx hb d h1 h2 ho ht (k H locs ls cells slots hl hw)
theorem go_tabOut {a : Int32} {dflt lo hi : Int} {offs : Array Int} {len t : Nat} (hC : Cb K own cc nL) (d : decode cc pc = .ok (.tableswitch dflt lo hi offs, len)) (h : a.toInt < lo ∨ hi < a.toInt) (ht : (pc : Int) + dflt = (t : Int)) (k : Go x K nL Q t lv st M) : Go x K nL Q pc lv (.int a :: st) M := by
  obtain ⟨p, l, e, R, s, m, args, below, meth, c⟩ := K
  obtain ⟨hx, hb, hml, hown, hts, hlk⟩ := hC
  intro H locs ls cells slots hl hw
  exact lv_tableOut hx hb d h ht (k H locs ls cells slots hl hw)
end Rows
