/-! ===== the typed heap: the addresses of the cells that we know, and what each holds ===== -/
abbrev tS : Type := List Nat × (Nat → va_E)
/-- the number of cells at the law's entry; the script: its cell, its length, its ints -/
abbrev tZ : Type := Nat × Nat × Nat × (Nat → Int32)
def tA (z : tZ) : Nat → Prop := fun q => z.1 ≤ q
def tW (S : tS) : va_W := va_pl S.1 S.2
def tset (S : tS) (a : Nat) (e : va_E) : tS := (S.1, va_up S.2 a e)
def tnew (S : tS) (a : Nat) (e : va_E) : tS := (S.1 ++ [a], va_up S.2 a e)
/-- the tables' good words hold; and those of eW, here and wherever the tables are warmer and the cells below z are as they are here -/
def tT (z : tZ) (U : State) : Prop := (∀ w ∈ gW, ∀ a : Array Value, w.before a U = true) ∧ (∀ (V : State), U.WarmedH V.vm → (∀ q : Nat, q < z.1 → V.heap[q]? = U.heap[q]?) → ∀ w ∈ eW, ∀ a : Array Value, w.before a V = true) ∧ va_X z.2.1 z.2.2.1 z.2.2.2 U U.heap ∧ z.2.1 < z.1
theorem tT.moved {z : tZ} {s U : State} (h : tT z s) (hW : s.WarmedH U.vm) (hz : ∀ q : Nat, q < z.1 → U.heap[q]? = s.heap[q]?) : tT z U := ⟨fun w hw a => word_at hW (gW_good w hw) (h.1 w hw #[]), fun V h1 h2 => h.2.1 V (hW.trans h1) (fun q hq => (h2 q hq).trans (hz q hq)), (h.2.2.1.moved hW.alike).kept (hz _ h.2.2.2), h.2.2.2⟩
theorem tS_low {z : tZ} {H0 H : Heap} {locs : List Loc} (h : va_S (tA z) H0 H locs) (hz : z.1 ≤ H0.size) : ∀ q : Nat, q < z.1 → H[q]? = H0[q]? := fun q hq => h.2.1 q (Nat.lt_of_lt_of_le hq hz) (Nat.not_le.mpr hq)
def tX (p : Program) (s : State) (m : MethodId) (meth : Method) (c : Code) (cc : ByteArray) (nL : Nat) (own : String) (ret : Option FieldType) (ini : Bool) (hh : List (Nat × Nat × Nat × Nat)) (D : va_G) (tys : List (ClassId × FieldType)) (z : tZ) : Prop :=
  p.tables.exec = Jvm.exec ∧ c.code = cc ∧ c.maxLocals = nL ∧ s.vm.findClass own = some m.cls ∧ tT z s ∧ va_K D cls tys s ∧ meth.sig.returnType = ret ∧ meth.locks = false ∧ (ini = true → meth.name = "<init>") ∧ c.exceptionTable.toList.map (fun x => (x.startPc, x.endPc, x.handlerPc, x.catchType)) = hh
def tH (D : va_G) (z : tZ) (S : tS) (H0 H : Heap) (locs : List Loc) : Prop := va_P D cls (tW S) H ∧ va_D (tA z) (tW S) ∧ va_S (tA z) H0 H locs ∧ z.1 ≤ H0.size
def tU (D : va_G) (tys : List (ClassId × FieldType)) (z : tZ) (S : tS) (U : State) : Prop := tT z U ∧ va_K D cls tys U ∧ va_P D cls (tW S) U.heap ∧ va_D (tA z) (tW S) ∧ z.1 ≤ U.heap.size
/-- the exceptions' classes, by number -/
def excs : List String := ["java/lang/IllegalArgumentException", "java/lang/IllegalStateException", "java/lang/IndexOutOfBoundsException", "java/util/NoSuchElementException", "java/lang/UnsupportedOperationException"]
/-- a method's ends: it returns v, or throws an object of the exceptions' class k -/
abbrev tO : Type := Option Value ⊕ Nat
def tQo (Q : tO → tS → Prop) (S : tS) (o : Outcome) (t : State) : Prop := (∃ v, o = .returned v ∧ Q (.inl v) S) ∨ (∃ (a k : Nat) (C : String) (cell : Cell), o = .threw a ∧ Q (.inr k) S ∧ excs[k]? = some C ∧ t.heap[a]? = some cell ∧ cell.vm.isStatics = false ∧ t.vm.findClass C = some cell.cls)
def tQ (D : va_G) (tys : List (ClassId × FieldType)) (z : tZ) (Q : tO → tS → Prop) (st : State) (o : Outcome) (t : State) : Prop := (∃ S : tS, tU D tys z S t ∧ tQo Q S o t) ∧ va_F (tA z) st t
/-- what a method leaves as it was, however it ends -/
def tFE (st t : State) (L : List Loc) (k n : Nat) : Prop := st.WarmedH t.vm ∧ st.sameButNew ({ t with vm := st.vm } : State) L k n
def tG (D : va_G) (tys : List (ClassId × FieldType)) (z : tZ) (Q : tO → tS → Prop) (rm : Room) (st : State) (o : Outcome) (t : State) : Prop := tQ D tys z Q st o t ∧ ∃ L, tFE st t L rm.cells rm.slots ∧ ∀ q ∈ L, tA z q.base
/-- a method's code word: without handlers, or with -/
def tCw (y : MethodName) (cc : ByteArray) (nL : Nat) (ret : Option FieldType) (hh : List (Nat × Nat × Nat × Nat)) : Cond := if hh = [] then .code y cc nL ret else .codeWith y cc nL ret hh
/-- a method's contract: from the typed heap S with the arguments av it ends as Q says -/
def tM (l : Launch) (y : MethodName) (cc : ByteArray) (nL : Nat) (ret : Option FieldType) (hh : List (Nat × Nat × Nat × Nat)) (rm : Room) (D : va_G) (tys : List (ClassId × FieldType)) (z : tZ) (av : List Value) (S : tS) (Q : tO → tS → Prop) : Prop :=
  MetFree l y (headSpec [tCw y cc nL ret hh] rm) (va_Pc av (tU D tys z S)) (fun _ _ _ _ _ => True) (fun _ st o t => tG D tys z Q rm st o t)
/-- what is claimed of a point of a method's code: in every state of the machine that is there, it comes to its end with Q -/
def tP (cc : ByteArray) (own : String) (nL : Nat) (ret : Option FieldType) (ini : Bool) (hh : List (Nat × Nat × Nat × Nat)) (rm : Room) (D : va_G) (tys : List (ClassId × FieldType)) (z : tZ) (l : Launch) (Q : tO → tS → Prop) (kc ks : Nat) (pc : Nat) (lv : List (Nat × Value)) (st : List Value) (S : tS) : Prop :=
  ∀ (p : Program) (e : Env) (s : State) (m : MethodId) (args : Array Value) (below : List Frame) (meth : Method) (c : Code) (H : Heap) (locs : List Loc) (ls : Array Slot),
    tX p s m meth c cc nL own ret ini hh D tys z → tH D z S s.heap H locs → lv_has ls nL lv →
    W p l e rm s m args below meth c H locs kc ks (fun t => ∃ o, t.status = .running ∧ Ended t below o ∧ tG D tys z Q rm s o t) (F0 m pc ls st)
theorem tU.calling {D : va_G} {tys : List (ClassId × FieldType)} {z : tZ} {S : tS} {av : List Value} : FrameBlind (va_Pc av (tU D tys z S)) := by
  intro a U g mk q
  obtain ⟨q0, q1, q2, q3, q4, q5⟩ := q
  exact ⟨q0, q1.moved (U := U.calling g mk a) (State.WarmedH.refl U) (fun _ _ => rfl), va_K.moved (u := U) (U := U.calling g mk a) (Vm.Alike.refl U.vm) q2, q3, q4, q5⟩
theorem W.mono {p : Program} {l : Launch} {e : Env} {R : Room} {s : State} {m : MethodId} {args : Array Value} {below : List Frame} {meth : Method} {c : Code} {H : Heap} {locs : List Loc} {cells slots : Nat} {Q1 Q2 : State → Prop} {g : JFrame} (h : ∀ t, Q1 t → Q2 t) (k : W p l e R s m args below meth c H locs cells slots Q1 g) : W p l e R s m args below meth c H locs cells slots Q2 g := by
  intro T hT X
  obtain ⟨t, a, b⟩ := k T hT X
  exact ⟨t, a, h t b⟩
/-- a method's contract out of its code's first point -/
theorem tM.of {l : Launch} {y : MethodName} {cc : ByteArray} {own : String} {nL : Nat} {ret : Option FieldType} {ini : Bool} {rm : Room} {D : va_G} {tys : List (ClassId × FieldType)} {z : tZ} {av : List Value} {S : tS} {Q : tO → tS → Prop}
    (hy : plainFor y = true) (ho : y.cls = own) (hi : ini = true → y.name = "<init>") (hn : (lg_sl av).length ≤ nL) {lv : List (Nat × Value)} (hlv : lv_args 0 av = lv) (h : tP cc own nL ret ini [] rm D tys z l Q 0 0 0 lv [] S) : tM l y cc nL ret [] rm D tys z av S Q := by
  refine MetFree.of_bodySF (code := cc) (maxLocals := nL) (ret := ret) hy ?_ ?_
  · intro args s m h hn
    obtain ⟨meth, c, h1, h2, h3, h4, h5, h6, -, -⟩ := Cond.code_spec hn (atoms_spec (ws := [Cond.code y cc nL ret]) h _ List.mem_cons_self)
    exact ⟨meth, c, h1, h2, h3, h4, h5, h6⟩
  · intro p e s m args below meth c s₁ B hml hv _
    have hh0 : s₁.heap = s.heap := by rw [B.state]; rfl
    have hcw : (Cond.code y cc nL ret).before args s = true := atoms_spec (ws := [Cond.code y cc nL ret]) B.pre _ List.mem_cons_self
    have hem := B.noHandlers hcw
    obtain ⟨rfl, h1, h2, h3, h4, h5⟩ := hv
    have hl := lv_entry av (n := nL) hn
    subst hlv
    subst ho
    have K := h p e s m av.toArray below meth c s.heap [] _ ⟨B.exec, B.bytes, hml, findClass_of_methodNamed B.named, h1, h2, B.returns, B.notSynchronized, fun hh => (name_of_methodNamed B.named B.method).1.trans (hi hh), by rw [Array.isEmpty_iff.mp hem]; rfl⟩ ⟨h3, h4, va_S.rf, h5⟩ hl
    rw [← lg_entry_eq] at K
    obtain ⟨t, a1, o, b1, b2, b3⟩ := K s₁ hh0 (Stand.of_body B)
    exact ⟨t, o, a1, b1, b2, b3⟩
section TB
variable {cc : ByteArray} {own : String} {nL : Nat} {ret : Option FieldType} {ini : Bool} {hh : List (Nat × Nat × Nat × Nat)} {rm : Room} {D : va_G} {tys : List (ClassId × FieldType)} {z : tZ} {l : Launch} {Q : tO → tS → Prop} {kc ks : Nat} {pc : Nat} {lv : List (Nat × Value)} {st : List Value} {S : tS}
theorem tt_iconst {n : Int} {v : Int32} (hd : decode cc pc = .ok (.iconst n, 1)) (hv : Int32.ofInt n = v) (k : tP cc own nL ret ini hh rm D tys z l Q kc ks (pc + 1) lv (.int v :: st) S) : tP cc own nL ret ini hh rm D tys z l Q kc ks pc lv st S :=
  fun p e s m args below meth c H locs ls X hH hl => lv_iconst X.1 X.2.1 hd hv (k p e s m args below meth c H locs ls X hH hl)
theorem tt_bipush {n : Int} {v : Int32} (hd : decode cc pc = .ok (.bipush n, 2)) (hv : (Int8.ofInt n).toInt32 = v) (k : tP cc own nL ret ini hh rm D tys z l Q kc ks (pc + 2) lv (.int v :: st) S) : tP cc own nL ret ini hh rm D tys z l Q kc ks pc lv st S :=
  fun p e s m args below meth c H locs ls X hH hl => lv_bipush X.1 X.2.1 hd hv (k p e s m args below meth c H locs ls X hH hl)
theorem tt_sipush {n : Int} {v : Int32} (hd : decode cc pc = .ok (.sipush n, 3)) (hv : (Int16.ofInt n).toInt32 = v) (k : tP cc own nL ret ini hh rm D tys z l Q kc ks (pc + 3) lv (.int v :: st) S) : tP cc own nL ret ini hh rm D tys z l Q kc ks pc lv st S :=
  fun p e s m args below meth c H locs ls X hH hl => lv_sipush X.1 X.2.1 hd hv (k p e s m args below meth c H locs ls X hH hl)
theorem tt_ldc {i : Nat} {v : Int32} (hw : Cond.constant own i v ∈ gW) (hd : decode cc pc = .ok (.ldc i, 2)) (k : tP cc own nL ret ini hh rm D tys z l Q kc ks (pc + 2) lv (.int v :: st) S) : tP cc own nL ret ini hh rm D tys z l Q kc ks pc lv st S :=
  fun p e s m args below meth c H locs ls X hH hl => lv_ldc X.1 X.2.1 X.2.2.2.1 (X.2.2.2.2.1.1 _ hw args) hd (k p e s m args below meth c H locs ls X hH hl)
theorem tt_iload_n {k : Fin 4} {i : Nat} {x : Int32} (hd : decode cc pc = .ok (.iload_n k, 1)) (hi : (k : Nat) = i) (j : Nat) (hj : lv[j]? = some (i, .int x)) (kk : tP cc own nL ret ini hh rm D tys z l Q kc ks (pc + 1) lv (.int x :: st) S) : tP cc own nL ret ini hh rm D tys z l Q kc ks pc lv st S :=
  fun p e s m args below meth c H locs ls X hH hl => lv_iload_n X.1 X.2.1 hd hi (lv_at hl j hj) (kk p e s m args below meth c H locs ls X hH hl)
theorem tt_iload {i : Nat} {x : Int32} (hd : decode cc pc = .ok (.iload i, 2)) (j : Nat) (hj : lv[j]? = some (i, .int x)) (kk : tP cc own nL ret ini hh rm D tys z l Q kc ks (pc + 2) lv (.int x :: st) S) : tP cc own nL ret ini hh rm D tys z l Q kc ks pc lv st S :=
  fun p e s m args below meth c H locs ls X hH hl => lv_iload X.1 X.2.1 hd (lv_at hl j hj) (kk p e s m args below meth c H locs ls X hH hl)
theorem tt_lload_n {k : Fin 4} {i : Nat} {x : Int64} (hd : decode cc pc = .ok (.lload_n k, 1)) (hi : (k : Nat) = i) (j : Nat) (hj : lv[j]? = some (i, .long x)) (kk : tP cc own nL ret ini hh rm D tys z l Q kc ks (pc + 1) lv (.long x :: st) S) : tP cc own nL ret ini hh rm D tys z l Q kc ks pc lv st S :=
  fun p e s m args below meth c H locs ls X hH hl => lv_lload_n X.1 X.2.1 hd hi (lv_at hl j hj) (kk p e s m args below meth c H locs ls X hH hl)
theorem tt_aload_n {k : Fin 4} {i : Nat} {x : Nat} (hd : decode cc pc = .ok (.aload_n k, 1)) (hi : (k : Nat) = i) (j : Nat) (hj : lv[j]? = some (i, .ref x)) (kk : tP cc own nL ret ini hh rm D tys z l Q kc ks (pc + 1) lv (.ref x :: st) S) : tP cc own nL ret ini hh rm D tys z l Q kc ks pc lv st S :=
  fun p e s m args below meth c H locs ls X hH hl => lv_aload_n X.1 X.2.1 hd hi (lv_at hl j hj) (kk p e s m args below meth c H locs ls X hH hl)
theorem tt_aload {i : Nat} {x : Nat} (hd : decode cc pc = .ok (.aload i, 2)) (j : Nat) (hj : lv[j]? = some (i, .ref x)) (kk : tP cc own nL ret ini hh rm D tys z l Q kc ks (pc + 2) lv (.ref x :: st) S) : tP cc own nL ret ini hh rm D tys z l Q kc ks pc lv st S :=
  fun p e s m args below meth c H locs ls X hH hl => lv_aload X.1 X.2.1 hd (lv_at hl j hj) (kk p e s m args below meth c H locs ls X hH hl)
theorem tt_istore_n {k : Fin 4} {i : Nat} {x : Int32} {lv' : List (Nat × Value)} (hd : decode cc pc = .ok (.istore_n k, 1)) (hi : (k : Nat) = i) (hn : i < nL) (he : (i, Value.int x) :: lv.filter (fun q => !(q.1 == i) && !(q.1 + 1 == i && q.2.category == 2)) = lv') (kk : tP cc own nL ret ini hh rm D tys z l Q kc ks (pc + 1) lv' st S) : tP cc own nL ret ini hh rm D tys z l Q kc ks pc lv (.int x :: st) S :=
  fun p e s m args below meth c H locs ls X hH hl => lv_istore_n X.1 X.2.1 hd hi hl hn he (fun ls' hl' => kk p e s m args below meth c H locs ls' X hH hl')
theorem tt_istore {i : Nat} {x : Int32} {lv' : List (Nat × Value)} (hd : decode cc pc = .ok (.istore i, 2)) (hn : i < nL) (he : (i, Value.int x) :: lv.filter (fun q => !(q.1 == i) && !(q.1 + 1 == i && q.2.category == 2)) = lv') (kk : tP cc own nL ret ini hh rm D tys z l Q kc ks (pc + 2) lv' st S) : tP cc own nL ret ini hh rm D tys z l Q kc ks pc lv (.int x :: st) S :=
  fun p e s m args below meth c H locs ls X hH hl => lv_istore X.1 X.2.1 hd hl hn he (fun ls' hl' => kk p e s m args below meth c H locs ls' X hH hl')
theorem tt_lstore_n {k : Fin 4} {i : Nat} {x : Int64} {lv' : List (Nat × Value)} (hd : decode cc pc = .ok (.lstore_n k, 1)) (hi : (k : Nat) = i) (hn : i + 1 < nL) (he : (i, Value.long x) :: lv.filter (fun q => !(q.1 == i) && (!(q.1 == i + 1) && !(q.1 + 1 == i && q.2.category == 2))) = lv') (kk : tP cc own nL ret ini hh rm D tys z l Q kc ks (pc + 1) lv' st S) : tP cc own nL ret ini hh rm D tys z l Q kc ks pc lv (.long x :: st) S :=
  fun p e s m args below meth c H locs ls X hH hl => lv_lstore_n X.1 X.2.1 hd hi hl hn he (fun ls' hl' => kk p e s m args below meth c H locs ls' X hH hl')
theorem tt_astore_n {k : Fin 4} {i : Nat} {x : Nat} {lv' : List (Nat × Value)} (hd : decode cc pc = .ok (.astore_n k, 1)) (hi : (k : Nat) = i) (hn : i < nL) (he : (i, Value.ref x) :: lv.filter (fun q => !(q.1 == i) && !(q.1 + 1 == i && q.2.category == 2)) = lv') (kk : tP cc own nL ret ini hh rm D tys z l Q kc ks (pc + 1) lv' st S) : tP cc own nL ret ini hh rm D tys z l Q kc ks pc lv (.ref x :: st) S :=
  fun p e s m args below meth c H locs ls X hH hl => lv_astore_n X.1 X.2.1 hd hi hl hn he (fun ls' hl' => kk p e s m args below meth c H locs ls' X hH hl')
theorem tt_astore {i : Nat} {x : Nat} {lv' : List (Nat × Value)} (hd : decode cc pc = .ok (.astore i, 2)) (hn : i < nL) (he : (i, Value.ref x) :: lv.filter (fun q => !(q.1 == i) && !(q.1 + 1 == i && q.2.category == 2)) = lv') (kk : tP cc own nL ret ini hh rm D tys z l Q kc ks (pc + 2) lv' st S) : tP cc own nL ret ini hh rm D tys z l Q kc ks pc lv (.ref x :: st) S :=
  fun p e s m args below meth c H locs ls X hH hl => lv_astore X.1 X.2.1 hd hl hn he (fun ls' hl' => kk p e s m args below meth c H locs ls' X hH hl')
theorem tt_iinc {i : Nat} {n : Int} {x v : Int32} {lv' : List (Nat × Value)} (hd : decode cc pc = .ok (.iinc i n, 3)) (k : Nat) (hk : lv[k]? = some (i, .int x)) (hv : x + Int32.ofInt n = v) (hn : i < nL) (he : (i, Value.int v) :: lv.filter (fun q => !(q.1 == i) && !(q.1 + 1 == i && q.2.category == 2)) = lv') (kk : tP cc own nL ret ini hh rm D tys z l Q kc ks (pc + 3) lv' st S) : tP cc own nL ret ini hh rm D tys z l Q kc ks pc lv st S :=
  fun p e s m args below meth c H locs ls X hH hl => lv_iinc X.1 X.2.1 hd hl hk hv hn he (fun ls' hl' => kk p e s m args below meth c H locs ls' X hH hl')
/-- fewer locals are known -/
theorem tt_sub {lv' : List (Nat × Value)} (is : List Nat) (he : is.filterMap (fun i => lv[i]?) = lv') (kk : tP cc own nL ret ini hh rm D tys z l Q kc ks pc lv' st S) : tP cc own nL ret ini hh rm D tys z l Q kc ks pc lv st S :=
  fun p e s m args below meth c H locs ls X hH hl => kk p e s m args below meth c H locs ls X hH (lv_sub hl is he)
theorem tt_iadd {x y : Int32} (hd : decode cc pc = .ok (.iadd, 1)) (k : tP cc own nL ret ini hh rm D tys z l Q kc ks (pc + 1) lv (.int (x + y) :: st) S) : tP cc own nL ret ini hh rm D tys z l Q kc ks pc lv (.int y :: .int x :: st) S :=
  fun p e s m args below meth c H locs ls X hH hl => lv_iadd X.1 X.2.1 hd (k p e s m args below meth c H locs ls X hH hl)
theorem tt_isub {x y : Int32} (hd : decode cc pc = .ok (.isub, 1)) (k : tP cc own nL ret ini hh rm D tys z l Q kc ks (pc + 1) lv (.int (x - y) :: st) S) : tP cc own nL ret ini hh rm D tys z l Q kc ks pc lv (.int y :: .int x :: st) S :=
  fun p e s m args below meth c H locs ls X hH hl => lv_isub X.1 X.2.1 hd (k p e s m args below meth c H locs ls X hH hl)
theorem tt_imul {x y : Int32} (hd : decode cc pc = .ok (.imul, 1)) (k : tP cc own nL ret ini hh rm D tys z l Q kc ks (pc + 1) lv (.int (x * y) :: st) S) : tP cc own nL ret ini hh rm D tys z l Q kc ks pc lv (.int y :: .int x :: st) S :=
  fun p e s m args below meth c H locs ls X hH hl => lv_imul X.1 X.2.1 hd (k p e s m args below meth c H locs ls X hH hl)
theorem tt_iand {x y : Int32} (hd : decode cc pc = .ok (.iand, 1)) (k : tP cc own nL ret ini hh rm D tys z l Q kc ks (pc + 1) lv (.int (x &&& y) :: st) S) : tP cc own nL ret ini hh rm D tys z l Q kc ks pc lv (.int y :: .int x :: st) S :=
  fun p e s m args below meth c H locs ls X hH hl => lv_iand X.1 X.2.1 hd (k p e s m args below meth c H locs ls X hH hl)
theorem tt_ior {x y : Int32} (hd : decode cc pc = .ok (.ior, 1)) (k : tP cc own nL ret ini hh rm D tys z l Q kc ks (pc + 1) lv (.int (x ||| y) :: st) S) : tP cc own nL ret ini hh rm D tys z l Q kc ks pc lv (.int y :: .int x :: st) S :=
  fun p e s m args below meth c H locs ls X hH hl => lv_ior X.1 X.2.1 hd (k p e s m args below meth c H locs ls X hH hl)
theorem tt_idiv {x y : Int32} (hd : decode cc pc = .ok (.idiv, 1)) (hne : ¬ y = 0) (k : tP cc own nL ret ini hh rm D tys z l Q kc ks (pc + 1) lv (.int (x / y) :: st) S) : tP cc own nL ret ini hh rm D tys z l Q kc ks pc lv (.int y :: .int x :: st) S :=
  fun p e s m args below meth c H locs ls X hH hl => lv_idiv X.1 X.2.1 hd hne (k p e s m args below meth c H locs ls X hH hl)
theorem tt_irem {x y : Int32} (hd : decode cc pc = .ok (.irem, 1)) (hne : ¬ y = 0) (k : tP cc own nL ret ini hh rm D tys z l Q kc ks (pc + 1) lv (.int (x - x / y * y) :: st) S) : tP cc own nL ret ini hh rm D tys z l Q kc ks pc lv (.int y :: .int x :: st) S :=
  fun p e s m args below meth c H locs ls X hH hl => lv_irem X.1 X.2.1 hd hne (k p e s m args below meth c H locs ls X hH hl)
theorem tt_ishl {x y : Int32} (hd : decode cc pc = .ok (.ishl, 1)) (k : tP cc own nL ret ini hh rm D tys z l Q kc ks (pc + 1) lv (.int (x <<< (y &&& 31)) :: st) S) : tP cc own nL ret ini hh rm D tys z l Q kc ks pc lv (.int y :: .int x :: st) S :=
  fun p e s m args below meth c H locs ls X hH hl => lv_ishl X.1 X.2.1 hd (k p e s m args below meth c H locs ls X hH hl)
theorem tt_ishr {x y : Int32} (hd : decode cc pc = .ok (.ishr, 1)) (k : tP cc own nL ret ini hh rm D tys z l Q kc ks (pc + 1) lv (.int (x >>> (y &&& 31)) :: st) S) : tP cc own nL ret ini hh rm D tys z l Q kc ks pc lv (.int y :: .int x :: st) S :=
  fun p e s m args below meth c H locs ls X hH hl => lv_ishr X.1 X.2.1 hd (k p e s m args below meth c H locs ls X hH hl)
theorem tt_i2b {x : Int32} (hd : decode cc pc = .ok (.i2b, 1)) (k : tP cc own nL ret ini hh rm D tys z l Q kc ks (pc + 1) lv (.int x.toInt8.toInt32 :: st) S) : tP cc own nL ret ini hh rm D tys z l Q kc ks pc lv (.int x :: st) S :=
  fun p e s m args below meth c H locs ls X hH hl => lv_i2b X.1 X.2.1 hd rfl (k p e s m args below meth c H locs ls X hH hl)
theorem tt_i2l {x : Int32} (hd : decode cc pc = .ok (.i2l, 1)) (k : tP cc own nL ret ini hh rm D tys z l Q kc ks (pc + 1) lv (.long x.toInt64 :: st) S) : tP cc own nL ret ini hh rm D tys z l Q kc ks pc lv (.int x :: st) S :=
  fun p e s m args below meth c H locs ls X hH hl => lv_i2l X.1 X.2.1 hd rfl (k p e s m args below meth c H locs ls X hH hl)
theorem tt_dup {v : Value} (hd : decode cc pc = .ok (.dup, 1)) (hv : v.category = 1) (k : tP cc own nL ret ini hh rm D tys z l Q kc ks (pc + 1) lv (v :: v :: st) S) : tP cc own nL ret ini hh rm D tys z l Q kc ks pc lv (v :: st) S :=
  fun p e s m args below meth c H locs ls X hH hl => lv_dup X.1 X.2.1 hd hv (k p e s m args below meth c H locs ls X hH hl)
theorem tt_dup2 {v w : Value} (hd : decode cc pc = .ok (.dup2, 1)) (hv : v.category = 1) (hw : w.category = 1) (k : tP cc own nL ret ini hh rm D tys z l Q kc ks (pc + 1) lv (v :: w :: v :: w :: st) S) : tP cc own nL ret ini hh rm D tys z l Q kc ks pc lv (v :: w :: st) S :=
  fun p e s m args below meth c H locs ls X hH hl => lv_dup2_11 X.1 X.2.1 hd hv hw (k p e s m args below meth c H locs ls X hH hl)
theorem tt_pop {v : Value} (hd : decode cc pc = .ok (.pop, 1)) (hv : v.category = 1) (k : tP cc own nL ret ini hh rm D tys z l Q kc ks (pc + 1) lv st S) : tP cc own nL ret ini hh rm D tys z l Q kc ks pc lv (v :: st) S :=
  fun p e s m args below meth c H locs ls X hH hl => lv_pop X.1 X.2.1 hd hv (k p e s m args below meth c H locs ls X hH hl)
theorem tt_goto {off : Int} {t : Nat} (hd : decode cc pc = .ok (.goto off, 3)) (ht : (pc : Int) + off = (t : Int)) (k : tP cc own nL ret ini hh rm D tys z l Q kc ks t lv st S) : tP cc own nL ret ini hh rm D tys z l Q kc ks pc lv st S :=
  fun p e s m args below meth c H locs ls X hH hl => lv_goto X.1 X.2.1 hd ht (k p e s m args below meth c H locs ls X hH hl)
theorem tt_if_eq {x : Int32} {off : Int} {t : Nat} (hd : decode cc pc = .ok (.ifCond .eq off, 3)) (ht : (pc : Int) + off = (t : Int)) (kt : x = 0 → tP cc own nL ret ini hh rm D tys z l Q kc ks t lv st S) (kf : ¬ x = 0 → tP cc own nL ret ini hh rm D tys z l Q kc ks (pc + 3) lv st S) : tP cc own nL ret ini hh rm D tys z l Q kc ks pc lv (.int x :: st) S :=
  fun p e s m args below meth c H locs ls X hH hl => lv_if_eq X.1 X.2.1 hd ht (fun h => kt h p e s m args below meth c H locs ls X hH hl) (fun h => kf h p e s m args below meth c H locs ls X hH hl)
theorem tt_icmp_eq {x y : Int32} {off : Int} {t : Nat} (hd : decode cc pc = .ok (.if_icmp .eq off, 3)) (ht : (pc : Int) + off = (t : Int)) (kt : x = y → tP cc own nL ret ini hh rm D tys z l Q kc ks t lv st S) (kf : ¬ x = y → tP cc own nL ret ini hh rm D tys z l Q kc ks (pc + 3) lv st S) : tP cc own nL ret ini hh rm D tys z l Q kc ks pc lv (.int y :: .int x :: st) S :=
  fun p e s m args below meth c H locs ls X hH hl => lv_icmp_eq X.1 X.2.1 hd ht (fun h => kt h p e s m args below meth c H locs ls X hH hl) (fun h => kf h p e s m args below meth c H locs ls X hH hl)
theorem tt_if_ne {x : Int32} {off : Int} {t : Nat} (hd : decode cc pc = .ok (.ifCond .ne off, 3)) (ht : (pc : Int) + off = (t : Int)) (kt : ¬ x = 0 → tP cc own nL ret ini hh rm D tys z l Q kc ks t lv st S) (kf : x = 0 → tP cc own nL ret ini hh rm D tys z l Q kc ks (pc + 3) lv st S) : tP cc own nL ret ini hh rm D tys z l Q kc ks pc lv (.int x :: st) S :=
  fun p e s m args below meth c H locs ls X hH hl => lv_if_ne X.1 X.2.1 hd ht (fun h => kt h p e s m args below meth c H locs ls X hH hl) (fun h => kf h p e s m args below meth c H locs ls X hH hl)
theorem tt_icmp_ne {x y : Int32} {off : Int} {t : Nat} (hd : decode cc pc = .ok (.if_icmp .ne off, 3)) (ht : (pc : Int) + off = (t : Int)) (kt : ¬ x = y → tP cc own nL ret ini hh rm D tys z l Q kc ks t lv st S) (kf : x = y → tP cc own nL ret ini hh rm D tys z l Q kc ks (pc + 3) lv st S) : tP cc own nL ret ini hh rm D tys z l Q kc ks pc lv (.int y :: .int x :: st) S :=
  fun p e s m args below meth c H locs ls X hH hl => lv_icmp_ne X.1 X.2.1 hd ht (fun h => kt h p e s m args below meth c H locs ls X hH hl) (fun h => kf h p e s m args below meth c H locs ls X hH hl)
theorem tt_if_lt {x : Int32} {off : Int} {t : Nat} (hd : decode cc pc = .ok (.ifCond .lt off, 3)) (ht : (pc : Int) + off = (t : Int)) (kt : x < 0 → tP cc own nL ret ini hh rm D tys z l Q kc ks t lv st S) (kf : ¬ x < 0 → tP cc own nL ret ini hh rm D tys z l Q kc ks (pc + 3) lv st S) : tP cc own nL ret ini hh rm D tys z l Q kc ks pc lv (.int x :: st) S :=
  fun p e s m args below meth c H locs ls X hH hl => lv_if_lt X.1 X.2.1 hd ht (fun h => kt h p e s m args below meth c H locs ls X hH hl) (fun h => kf h p e s m args below meth c H locs ls X hH hl)
theorem tt_icmp_lt {x y : Int32} {off : Int} {t : Nat} (hd : decode cc pc = .ok (.if_icmp .lt off, 3)) (ht : (pc : Int) + off = (t : Int)) (kt : x < y → tP cc own nL ret ini hh rm D tys z l Q kc ks t lv st S) (kf : ¬ x < y → tP cc own nL ret ini hh rm D tys z l Q kc ks (pc + 3) lv st S) : tP cc own nL ret ini hh rm D tys z l Q kc ks pc lv (.int y :: .int x :: st) S :=
  fun p e s m args below meth c H locs ls X hH hl => lv_icmp_lt X.1 X.2.1 hd ht (fun h => kt h p e s m args below meth c H locs ls X hH hl) (fun h => kf h p e s m args below meth c H locs ls X hH hl)
theorem tt_if_ge {x : Int32} {off : Int} {t : Nat} (hd : decode cc pc = .ok (.ifCond .ge off, 3)) (ht : (pc : Int) + off = (t : Int)) (kt : 0 ≤ x → tP cc own nL ret ini hh rm D tys z l Q kc ks t lv st S) (kf : ¬ 0 ≤ x → tP cc own nL ret ini hh rm D tys z l Q kc ks (pc + 3) lv st S) : tP cc own nL ret ini hh rm D tys z l Q kc ks pc lv (.int x :: st) S :=
  fun p e s m args below meth c H locs ls X hH hl => lv_if_ge X.1 X.2.1 hd ht (fun h => kt h p e s m args below meth c H locs ls X hH hl) (fun h => kf h p e s m args below meth c H locs ls X hH hl)
theorem tt_icmp_ge {x y : Int32} {off : Int} {t : Nat} (hd : decode cc pc = .ok (.if_icmp .ge off, 3)) (ht : (pc : Int) + off = (t : Int)) (kt : y ≤ x → tP cc own nL ret ini hh rm D tys z l Q kc ks t lv st S) (kf : ¬ y ≤ x → tP cc own nL ret ini hh rm D tys z l Q kc ks (pc + 3) lv st S) : tP cc own nL ret ini hh rm D tys z l Q kc ks pc lv (.int y :: .int x :: st) S :=
  fun p e s m args below meth c H locs ls X hH hl => lv_icmp_ge X.1 X.2.1 hd ht (fun h => kt h p e s m args below meth c H locs ls X hH hl) (fun h => kf h p e s m args below meth c H locs ls X hH hl)
theorem tt_if_gt {x : Int32} {off : Int} {t : Nat} (hd : decode cc pc = .ok (.ifCond .gt off, 3)) (ht : (pc : Int) + off = (t : Int)) (kt : 0 < x → tP cc own nL ret ini hh rm D tys z l Q kc ks t lv st S) (kf : ¬ 0 < x → tP cc own nL ret ini hh rm D tys z l Q kc ks (pc + 3) lv st S) : tP cc own nL ret ini hh rm D tys z l Q kc ks pc lv (.int x :: st) S :=
  fun p e s m args below meth c H locs ls X hH hl => lv_if_gt X.1 X.2.1 hd ht (fun h => kt h p e s m args below meth c H locs ls X hH hl) (fun h => kf h p e s m args below meth c H locs ls X hH hl)
theorem tt_icmp_gt {x y : Int32} {off : Int} {t : Nat} (hd : decode cc pc = .ok (.if_icmp .gt off, 3)) (ht : (pc : Int) + off = (t : Int)) (kt : y < x → tP cc own nL ret ini hh rm D tys z l Q kc ks t lv st S) (kf : ¬ y < x → tP cc own nL ret ini hh rm D tys z l Q kc ks (pc + 3) lv st S) : tP cc own nL ret ini hh rm D tys z l Q kc ks pc lv (.int y :: .int x :: st) S :=
  fun p e s m args below meth c H locs ls X hH hl => lv_icmp_gt X.1 X.2.1 hd ht (fun h => kt h p e s m args below meth c H locs ls X hH hl) (fun h => kf h p e s m args below meth c H locs ls X hH hl)
theorem tt_if_le {x : Int32} {off : Int} {t : Nat} (hd : decode cc pc = .ok (.ifCond .le off, 3)) (ht : (pc : Int) + off = (t : Int)) (kt : x ≤ 0 → tP cc own nL ret ini hh rm D tys z l Q kc ks t lv st S) (kf : ¬ x ≤ 0 → tP cc own nL ret ini hh rm D tys z l Q kc ks (pc + 3) lv st S) : tP cc own nL ret ini hh rm D tys z l Q kc ks pc lv (.int x :: st) S :=
  fun p e s m args below meth c H locs ls X hH hl => lv_if_le X.1 X.2.1 hd ht (fun h => kt h p e s m args below meth c H locs ls X hH hl) (fun h => kf h p e s m args below meth c H locs ls X hH hl)
theorem tt_icmp_le {x y : Int32} {off : Int} {t : Nat} (hd : decode cc pc = .ok (.if_icmp .le off, 3)) (ht : (pc : Int) + off = (t : Int)) (kt : x ≤ y → tP cc own nL ret ini hh rm D tys z l Q kc ks t lv st S) (kf : ¬ x ≤ y → tP cc own nL ret ini hh rm D tys z l Q kc ks (pc + 3) lv st S) : tP cc own nL ret ini hh rm D tys z l Q kc ks pc lv (.int y :: .int x :: st) S :=
  fun p e s m args below meth c H locs ls X hH hl => lv_icmp_le X.1 X.2.1 hd ht (fun h => kt h p e s m args below meth c H locs ls X hH hl) (fun h => kf h p e s m args below meth c H locs ls X hH hl)
/-- what a field's access needs of the tables: class number, field number, the class's names, the link -/
def tF (own : String) (i ci k : Nat) (C : String) (T : u_T) (N : Nat) (ty : Nat → FieldType) : Prop := cls[ci]? = some (C, T, N) ∧ k < N ∧ (T k).1 = C ∧ (∀ w ∈ u_ws C T N, w ∈ gW) ∧ (∀ k, k < N → parseFieldDescriptor (T k).2.2.1 = some (ty k)) ∧ (∀ a, a < N → ∀ b, b < N → a ≠ b → (T a).2.1 ≠ (T b).2.1) ∧ Cond.fieldLink own i C (T k).2.1 (T k).2.2.1 ∈ gW
theorem tt_get {i ci k : Nat} {C : String} {T : u_T} {N : Nat} {ty : Nat → FieldType} (F : tF own i ci k C T N ty) {a : Nat} {fs : List Value} {v : Value} (hd : decode cc pc = .ok (.getfield i, 3)) (ha : a ∈ S.1) (hf : S.2 a = .inr (ci, fs)) (hv : fs[k]? = some v) (kk : tP cc own nL ret ini hh rm D tys z l Q kc ks (pc + 3) lv (v :: st) S) : tP cc own nL ret ini hh rm D tys z l Q kc ks pc lv (.ref a :: st) S := by
  intro p e s m args below meth c H locs ls X hH hl
  obtain ⟨f1, f2, f3, f4, f5, f6, f7⟩ := F
  obtain ⟨q, hq⟩ := va_pl_get (X := []) (f := S.2) ha
  rw [hf] at hq
  exact va_get (D := D) (cl := cls) (C := C) (T := T) (N := N) X.1 X.2.1 (fun w hw => X.2.2.2.2.1.1 w hw args) f4 X.2.2.2.1 X.2.2.2.2.2.1 hH.1 q hq f1 k f2 (X.2.2.2.2.1.1 _ f7 args) (fun x hx => by rw [f3] at hx; exact hx) hv hd (kk p e s m args below meth c H locs ls X hH hl)
theorem tt_put {i ci k : Nat} {C : String} {T : u_T} {N : Nat} {ty : Nat → FieldType} (F : tF own i ci k C T N ty) {a : Nat} {fs : List Value} {v : Value} (hd : decode cc pc = .ok (.putfield i, 3)) (ha : a ∈ S.1) (hf : S.2 a = .inr (ci, fs)) (hfin : (T k).2.2.2 = false ∨ ((T k).2.2.2 = true ∧ ini = true ∧ C = own)) (hn : narrow (ty k) v = v) (hfit : fits (ty k) v = true) (hl : k < fs.length)
    (kk : tP cc own nL ret ini hh rm D tys z l Q kc ks (pc + 3) lv st (tset S a (.inr (ci, fs.set k v)))) : tP cc own nL ret ini hh rm D tys z l Q kc ks pc lv (v :: .ref a :: st) S := by
  intro p e s m args below meth c H locs ls X hH hl9
  obtain ⟨f1, f2, f3, f4, f5, f6, f7⟩ := F
  obtain ⟨q, hq⟩ := va_pl_get (X := []) (f := S.2) ha
  have hs := va_pl_set (X := []) (e := .inr (ci, fs.set k v)) hH.2.1 ha hq
  rw [hf] at hq
  have go : ∀ (H1 : Heap) (locs1 : List Loc), va_P D cls ((tW S).set q (a, .inr (ci, fs.set k v))) H1 → va_D (tA z) ((tW S).set q (a, .inr (ci, fs.set k v))) → va_S (tA z) s.heap H1 locs1 → W p l e rm s m args below meth c H1 locs1 kc ks (fun t => ∃ o, t.status = .running ∧ Ended t below o ∧ tG D tys z Q rm s o t) (F0 m (pc + 3) ls st) := by
    intro H1 locs1 g1 g2 g3
    have e1 : (tW S).set q (a, .inr (ci, fs.set k v)) = tW (tset S a (.inr (ci, fs.set k v))) := hs
    rw [e1] at g1 g2
    exact kk p e s m args below meth c H1 locs1 ls X ⟨g1, g2, g3, hH.2.2.2⟩ hl9
  rcases hfin with h | ⟨h, h1, h2⟩
  · exact va_put (D := D) (cl := cls) (C := C) (T := T) (N := N) X.1 X.2.1 (fun w hw => X.2.2.2.2.1.1 w hw args) f4 ty f5 f6 X.2.2.2.1 X.2.2.2.2.2.1 hH.1 hH.2.1 hH.2.2.1 q hq f1 k f2 (X.2.2.2.2.1.1 _ f7 args) (fun x hx => by rw [f3] at hx; exact hx) h (f5 k f2) hn hfit hl hd go
  · exact va_putF (D := D) (cl := cls) (C := C) (T := T) (N := N) X.1 X.2.1 (fun w hw => X.2.2.2.2.1.1 w hw args) f4 ty f5 f6 X.2.2.2.1 X.2.2.2.2.2.1 hH.1 hH.2.1 hH.2.2.1 q hq f1 k f2 (X.2.2.2.2.1.1 _ f7 args) (fun x hx => by rw [f3] at hx; exact hx) h (X.2.2.2.2.2.2.2.2.1 h1) (by rw [f3]; exact h2) (f5 k f2) hn hfit hl hd go
theorem tt_iald (t0 : Nat) {cA : ClassId} {n : Nat} {f : Nat → Int32} {a : Nat} {i : Int32} (hd : decode cc pc = .ok (.iaload, 1)) (ht : tys[t0]? = some (cA, .int)) (ha : a ∈ S.1) (hf : S.2 a = .inl (cA, n, .inl f)) (hin : vp_in i n) (kk : tP cc own nL ret ini hh rm D tys z l Q kc ks (pc + 1) lv (.int (f i.toNatClampNeg) :: st) S) : tP cc own nL ret ini hh rm D tys z l Q kc ks pc lv (.int i :: .ref a :: st) S := by
  intro p e s m args below meth c H locs ls X hH hl
  obtain ⟨q, hq⟩ := va_pl_get (X := []) (f := S.2) ha
  rw [hf] at hq
  exact va_iald (D := D) (cl := cls) X.1 X.2.1 X.2.2.2.2.2.1 hH.1 q t0 hq ht hin hd (kk p e s m args below meth c H locs ls X hH hl)
theorem tt_bald (t0 : Nat) {cA : ClassId} {n : Nat} {f : Nat → Int32} {a : Nat} {i : Int32} (hd : decode cc pc = .ok (.baload, 1)) (ht : tys[t0]? = some (cA, .byte)) (ha : a ∈ S.1) (hf : S.2 a = .inl (cA, n, .inl f)) (hin : vp_in i n) (kk : tP cc own nL ret ini hh rm D tys z l Q kc ks (pc + 1) lv (.int (f i.toNatClampNeg) :: st) S) : tP cc own nL ret ini hh rm D tys z l Q kc ks pc lv (.int i :: .ref a :: st) S := by
  intro p e s m args below meth c H locs ls X hH hl
  obtain ⟨q, hq⟩ := va_pl_get (X := []) (f := S.2) ha
  rw [hf] at hq
  exact va_bald (D := D) (cl := cls) X.1 X.2.1 X.2.2.2.2.2.1 hH.1 q t0 hq ht hin hd (kk p e s m args below meth c H locs ls X hH hl)
theorem tt_zald (t0 : Nat) {cA : ClassId} {n : Nat} {f : Nat → Int32} {a : Nat} {i : Int32} (hd : decode cc pc = .ok (.baload, 1)) (ht : tys[t0]? = some (cA, .boolean)) (ha : a ∈ S.1) (hf : S.2 a = .inl (cA, n, .inl f)) (hin : vp_in i n) (kk : tP cc own nL ret ini hh rm D tys z l Q kc ks (pc + 1) lv (.int (f i.toNatClampNeg) :: st) S) : tP cc own nL ret ini hh rm D tys z l Q kc ks pc lv (.int i :: .ref a :: st) S := by
  intro p e s m args below meth c H locs ls X hH hl
  obtain ⟨q, hq⟩ := va_pl_get (X := []) (f := S.2) ha
  rw [hf] at hq
  exact va_zald (D := D) (cl := cls) X.1 X.2.1 X.2.2.2.2.2.1 hH.1 q t0 hq ht hin hd (kk p e s m args below meth c H locs ls X hH hl)
theorem tt_iast (t0 : Nat) {cA : ClassId} {n : Nat} {f : Nat → Int32} {a : Nat} {i x : Int32} (hd : decode cc pc = .ok (.iastore, 1)) (ht : tys[t0]? = some (cA, .int)) (ha : a ∈ S.1) (hf : S.2 a = .inl (cA, n, .inl f)) (hin : vp_in i n) (kk : tP cc own nL ret ini hh rm D tys z l Q kc ks (pc + 1) lv st (tset S a (.inl (cA, n, .inl (upd f i.toNatClampNeg x))))) : tP cc own nL ret ini hh rm D tys z l Q kc ks pc lv (.int x :: .int i :: .ref a :: st) S := by
  intro p e s m args below meth c H locs ls X hH hl
  obtain ⟨q, hq⟩ := va_pl_get (X := []) (f := S.2) ha
  have hs := va_pl_set (X := []) (e := .inl (cA, n, .inl (upd f i.toNatClampNeg x))) hH.2.1 ha hq
  rw [hf] at hq
  refine va_iast (D := D) (cl := cls) X.1 X.2.1 X.2.2.2.2.2.1 hH.1 hH.2.1 hH.2.2.1 q t0 hq ht hin hd (fun H1 locs1 g1 g2 g3 => ?_)
  have e1 : (tW S).set q (a, .inl (cA, n, .inl (upd f i.toNatClampNeg x))) = tW (tset S a (.inl (cA, n, .inl (upd f i.toNatClampNeg x)))) := hs
  rw [e1] at g1 g2
  exact kk p e s m args below meth c H1 locs1 ls X ⟨g1, g2, g3, hH.2.2.2⟩ hl
theorem tt_bast (t0 : Nat) {cA : ClassId} {n : Nat} {f : Nat → Int32} {a : Nat} {i x : Int32} (hd : decode cc pc = .ok (.bastore, 1)) (ht : tys[t0]? = some (cA, .byte)) (ha : a ∈ S.1) (hf : S.2 a = .inl (cA, n, .inl f)) (hin : vp_in i n) (kk : tP cc own nL ret ini hh rm D tys z l Q kc ks (pc + 1) lv st (tset S a (.inl (cA, n, .inl (upd f i.toNatClampNeg (vp_nar .byte x)))))) : tP cc own nL ret ini hh rm D tys z l Q kc ks pc lv (.int x :: .int i :: .ref a :: st) S := by
  intro p e s m args below meth c H locs ls X hH hl
  obtain ⟨q, hq⟩ := va_pl_get (X := []) (f := S.2) ha
  have hs := va_pl_set (X := []) (e := .inl (cA, n, .inl (upd f i.toNatClampNeg (vp_nar .byte x)))) hH.2.1 ha hq
  rw [hf] at hq
  refine va_bast (D := D) (cl := cls) X.1 X.2.1 X.2.2.2.2.2.1 hH.1 hH.2.1 hH.2.2.1 q t0 hq ht hin hd (fun H1 locs1 g1 g2 g3 => ?_)
  have e1 : (tW S).set q (a, .inl (cA, n, .inl (upd f i.toNatClampNeg (vp_nar .byte x)))) = tW (tset S a (.inl (cA, n, .inl (upd f i.toNatClampNeg (vp_nar .byte x))))) := hs
  rw [e1] at g1 g2
  exact kk p e s m args below meth c H1 locs1 ls X ⟨g1, g2, g3, hH.2.2.2⟩ hl
theorem tt_zast (t0 : Nat) {cA : ClassId} {n : Nat} {f : Nat → Int32} {a : Nat} {i x : Int32} (hd : decode cc pc = .ok (.bastore, 1)) (ht : tys[t0]? = some (cA, .boolean)) (ha : a ∈ S.1) (hf : S.2 a = .inl (cA, n, .inl f)) (hin : vp_in i n) (kk : tP cc own nL ret ini hh rm D tys z l Q kc ks (pc + 1) lv st (tset S a (.inl (cA, n, .inl (upd f i.toNatClampNeg (vp_nar .boolean x)))))) : tP cc own nL ret ini hh rm D tys z l Q kc ks pc lv (.int x :: .int i :: .ref a :: st) S := by
  intro p e s m args below meth c H locs ls X hH hl
  obtain ⟨q, hq⟩ := va_pl_get (X := []) (f := S.2) ha
  have hs := va_pl_set (X := []) (e := .inl (cA, n, .inl (upd f i.toNatClampNeg (vp_nar .boolean x)))) hH.2.1 ha hq
  rw [hf] at hq
  refine va_zast (D := D) (cl := cls) X.1 X.2.1 X.2.2.2.2.2.1 hH.1 hH.2.1 hH.2.2.1 q t0 hq ht hin hd (fun H1 locs1 g1 g2 g3 => ?_)
  have e1 : (tW S).set q (a, .inl (cA, n, .inl (upd f i.toNatClampNeg (vp_nar .boolean x)))) = tW (tset S a (.inl (cA, n, .inl (upd f i.toNatClampNeg (vp_nar .boolean x))))) := hs
  rw [e1] at g1 g2
  exact kk p e s m args below meth c H1 locs1 ls X ⟨g1, g2, g3, hH.2.2.2⟩ hl
theorem tt_alen (t0 : Nat) {cA : ClassId} {x : vp_A} {ty : FieldType} {a : Nat} {v : Int32} (hd : decode cc pc = .ok (.arraylength, 1)) (ht : tys[t0]? = some (cA, ty)) (ha : a ∈ S.1) (hf : S.2 a = .inl (cA, x)) (hv : Int32.ofNat x.1 = v) (kk : tP cc own nL ret ini hh rm D tys z l Q kc ks (pc + 1) lv (.int v :: st) S) : tP cc own nL ret ini hh rm D tys z l Q kc ks pc lv (.ref a :: st) S := by
  intro p e s m args below meth c H locs ls X hH hl
  obtain ⟨q, hq⟩ := va_pl_get (X := []) (f := S.2) ha
  rw [hf] at hq
  exact va_alen (D := D) (cl := cls) X.1 X.2.1 X.2.2.2.2.2.1 hH.1 q t0 hq ht hv hd (kk p e s m args below meth c H locs ls X hH hl)
theorem tt_aald (t0 : Nat) {cA : ClassId} {C : String} {n : Nat} {f : Nat → Option Nat} {a b : Nat} {i : Int32} (hd : decode cc pc = .ok (.aaload, 1)) (ht : tys[t0]? = some (cA, .object C)) (ha : a ∈ S.1) (hf : S.2 a = .inl (cA, n, .inr (.inr (.inr (.inr f))))) (hin : vp_in i n) (hb : f i.toNatClampNeg = some b) (kk : tP cc own nL ret ini hh rm D tys z l Q kc ks (pc + 1) lv (.ref b :: st) S) : tP cc own nL ret ini hh rm D tys z l Q kc ks pc lv (.int i :: .ref a :: st) S := by
  intro p e s m args below meth c H locs ls X hH hl
  obtain ⟨q, hq⟩ := va_pl_get (X := []) (f := S.2) ha
  rw [hf] at hq
  refine va_aldq (D := D) (cl := cls) X.1 X.2.1 X.2.2.2.2.2.1 hH.1 q t0 hq ht hin hd ?_
  rw [hb]
  exact kk p e s m args below meth c H locs ls X hH hl
/-- the ends -/
theorem tQ.end' {s t : State} {p : Program} {m : MethodId} {meth : Method} {c : Code} {H : Heap} {locs : List Loc} {v : Option Value} (X : tX p s m meth c cc nL own ret ini hh D tys z) (hH : tH D z S s.heap H locs) (hq : Q (.inl v) S) (ht : t.heap = H) (hW : s.WarmedH t.vm) : tQ D tys z Q s (.returned v) t :=
  ⟨⟨S, ⟨X.2.2.2.2.1.moved hW (by rw [ht]; exact tS_low hH.2.2.1 hH.2.2.2), va_K.moved hW.alike X.2.2.2.2.2.1, by rw [ht]; exact hH.1, hH.2.1, by rw [ht]; exact Nat.le_trans hH.2.2.2 hH.2.2.1.1⟩, Or.inl ⟨v, rfl, hq⟩⟩, hH.2.2.1.F ht⟩
theorem tG.ofMQ {s t : State} {below : List Frame} {args : Array Value} (h : MQ below (fun _ st o t => tQ D tys z Q st o t) args s rm.cells rm.slots (tA z) t) : ∃ o, t.status = .running ∧ Ended t below o ∧ tG D tys z Q rm s o t := by
  obtain ⟨o, h1, h2, h3, L, h4, h5⟩ := h
  exact ⟨o, h1, h2, h3, L, h4.2, h5⟩
theorem tt_ret {ty : FieldType} {v : Int32} (hr : ret = some ty) (hn : narrow ty (.int v) = .int v) (hc : kc ≤ rm.cells) (hs : ks ≤ rm.slots) (hd : decode cc pc = .ok (.ireturn, 1)) (hq : Q (.inl (some (.int v))) S) : tP cc own nL ret ini hh rm D tys z l Q kc ks pc lv [.int v] S := by
  intro p e s m args below meth c H locs ls X hH hl
  refine W.mono (fun t h => tG.ofMQ (args := args) h) (W.widen (k := rm.cells) (n := rm.slots) hc hs ?_)
  exact W.zret X.1 X.2.1 (X.2.2.2.2.2.2.1.trans hr) hn (fun t ht hW => tQ.end' X hH hq ht hW) (fun q hq => hH.2.2.1.2.2 q hq) hd X.2.2.2.2.2.2.2.1
theorem tt_vret (hr : ret = none) (hc : kc ≤ rm.cells) (hs : ks ≤ rm.slots) (hd : decode cc pc = .ok (.return_, 1)) (hq : Q (.inl none) S) : tP cc own nL ret ini hh rm D tys z l Q kc ks pc lv [] S := by
  intro p e s m args below meth c H locs ls X hH hl
  refine W.mono (fun t h => tG.ofMQ (args := args) h) (W.widen (k := rm.cells) (n := rm.slots) hc hs ?_)
  exact W.vret X.1 X.2.1 (X.2.2.2.2.2.2.1.trans hr) (fun t ht hW => tQ.end' X hH hq ht hW) (fun q hq => hH.2.2.1.2.2 q hq) hd X.2.2.2.2.2.2.2.1
theorem tt_lret {v : Int64} (hr : ret = some .long) (hc : kc ≤ rm.cells) (hs : ks ≤ rm.slots) (hd : decode cc pc = .ok (.lreturn, 1)) (hq : Q (.inl (some (.long v))) S) : tP cc own nL ret ini hh rm D tys z l Q kc ks pc lv [.long v] S := by
  intro p e s m args below meth c H locs ls X hH hl
  refine W.mono (fun t h => tG.ofMQ (args := args) h) (W.widen (k := rm.cells) (n := rm.slots) hc hs ?_)
  exact W.lret X.1 X.2.1 (X.2.2.2.2.2.2.1.trans hr) (fun t ht hW => tQ.end' X hH hq ht hW) (fun q hq => hH.2.2.1.2.2 q hq) hd X.2.2.2.2.2.2.2.1
theorem tt_aret {rt : FieldType} {a : Nat} (hr : ret = some rt) (hrt : (∃ n, rt = .object n) ∨ ∃ t, rt = .array t) (hc : kc ≤ rm.cells) (hs : ks ≤ rm.slots) (hd : decode cc pc = .ok (.areturn, 1)) (hq : Q (.inl (some (.ref a))) S) : tP cc own nL ret ini hh rm D tys z l Q kc ks pc lv [.ref a] S := by
  intro p e s m args below meth c H locs ls X hH hl
  refine W.mono (fun t h => tG.ofMQ (args := args) h) (W.widen (k := rm.cells) (n := rm.slots) hc hs ?_)
  exact W.aret X.1 X.2.1 (X.2.2.2.2.2.2.1.trans hr) hrt (Or.inr ⟨a, rfl⟩) (fun t ht hW => tQ.end' X hH hq ht hW) (fun q hq => hH.2.2.1.2.2 q hq) hd X.2.2.2.2.2.2.2.1
end TB
