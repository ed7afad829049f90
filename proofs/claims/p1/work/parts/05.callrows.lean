/-! ===== rows: calls, and exceptions that pass through ===== -/
/-- an exception of the class k stands over the method's frame at pc -/
def tY (cc : ByteArray) (own : String) (nL : Nat) (ret : Option FieldType) (ini : Bool) (hh : List (Nat × Nat × Nat × Nat)) (rm : Room) (D : va_G) (tys : List (ClassId × FieldType)) (z : tZ) (l : Launch) (Q : tO → tS → Prop) (kc ks : Nat) (pc : Nat) (lv : List (Nat × Value)) (k : Nat) (S : tS) : Prop :=
  ∀ (p : Program) (e : Env) (s : State) (m : MethodId) (args : Array Value) (below : List Frame) (meth : Method) (c : Code) (T : State) (locs : List Loc) (ls : Array Slot) (st : List Value) (a : Nat) (C : String) (cell : Cell),
    tX p s m meth c cc nL own ret ini hh D tys z → tH D z S s.heap T.heap locs → lv_has ls nL lv → Stand p l e rm s m args below meth c T locs kc ks →
    excs[k]? = some C → T.heap[a]? = some cell → cell.vm.isStatics = false → T.vm.findClass C = some cell.cls →
    ∃ t, Steps p.tables e below ((T.setTop (F0 m pc ls st)).pushFrame (.throwing a)) t ∧ ∃ o, t.status = .running ∧ Ended t below o ∧ tG D tys z Q rm s o t
section TR
variable {cc : ByteArray} {own : String} {nL : Nat} {ret : Option FieldType} {ini : Bool} {hh : List (Nat × Nat × Nat × Nat)} {rm : Room} {D : va_G} {tys : List (ClassId × FieldType)} {z : tZ} {l : Launch} {Q : tO → tS → Prop} {kc ks : Nat} {pc : Nat} {lv : List (Nat × Value)} {st : List Value} {S : tS}
theorem tt_pass {k : Nat} (hout : ∀ x ∈ hh, ¬ (x.1 ≤ pc ∧ pc < x.2.1)) (hc : kc ≤ rm.cells) (hs : ks ≤ rm.slots) (hq : Q (.inr k) S) : tY cc own nL ret ini hh rm D tys z l Q kc ks pc lv k S := by
  intro p e s m args below meth c T locs ls st a C cell X hH hl Y hC hcl hcv hcf
  have ho : ∀ x ∈ c.exceptionTable.toList, covers x (F0 m pc ls st).pc = false := by
    intro x hx
    have h1 := hout (x.startPc, x.endPc, x.handlerPc, x.catchType) (by rw [← X.2.2.2.2.2.2.2.2.2]; exact List.mem_map.mpr ⟨x, hx, rfl⟩)
    simp only [covers, F0]
    simp only [not_and, Nat.not_lt] at h1
    simp only [Bool.and_eq_false_iff, decide_eq_false_iff_not]
    by_cases h2 : x.startPc ≤ pc
    · exact Or.inr (by have := h1 h2; omega)
    · exact Or.inl h2
  obtain ⟨h1, h2, h3, h4, h5⟩ := Y.leaveThrown a (g := F0 m pc ls st) rfl rfl rfl ho X.2.2.2.2.2.2.2.1
  refine ⟨_, h1, .threw a, h2, h3, ⟨⟨S, ⟨X.2.2.2.2.1.moved h4 (tS_low hH.2.2.1 hH.2.2.2), va_K.moved h4.alike X.2.2.2.2.2.1, hH.1, hH.2.1, Nat.le_trans hH.2.2.2 hH.2.2.1.1⟩, Or.inr ⟨a, k, C, cell, rfl, hq, hC, hcl, hcv, hcf⟩⟩, hH.2.2.1.F rfl⟩, locs, ⟨h4, h5.mono hc hs⟩, fun q h => hH.2.2.1.2.2 q h⟩
/-- behind an invocation, both ways -/
theorem tt_back {p : Program} {e : Env} {s : State} {m : MethodId} {args : Array Value} {below : List Frame} {meth : Method} {c : Code} {H : Heap} {locs : List Loc} {ls : Array Slot} {y : MethodName} {bytes : ByteArray} {nL' : Nat} {ret' : Option FieldType} {hh' : List (Nat × Nat × Nat × Nat)} {rm' : Room} {av : List Value} {Q' : tO → tS → Prop} {ig : Instr} {T : State} {vm₁ : Vm} {mk : MethodId}
    (X : tX p s m meth c cc nL own ret ini hh D tys z) (hH : tH D z S s.heap H locs) (hl : lv_has ls nL lv) (hT : T.heap = H) (X₁ : Stand p l e rm s m args below meth c (T.setVm vm₁) locs kc ks)
    (hM : tM l y bytes nL' ret' hh' rm' D tys z av S Q') (hnm : s.methodNamed? y = some mk) (w4 : Cond.initialized y.cls ∈ gW) (w5 : tCw y bytes nL' ret' hh' ∈ gW)
    (hR : rm'.frames + 1 ≤ rm.frames ∧ 8 + (nL' + 11) + rm'.locals ≤ rm.locals ∧ kc + rm'.cells ≤ rm.cells ∧ ks + rm'.slots ≤ rm.slots) (hcat : (st.map fun v => v.category).sum ≤ 8) (hd : decode cc pc = .ok (ig, 3))
    (kk : ∀ v S', Q' (.inl v) S' → tP cc own nL ret ini hh rm D tys z l Q (kc + rm'.cells) (ks + rm'.slots) (pc + 3) lv (v.toList ++ st) S')
    (kt : ∀ k S', Q' (.inr k) S' → tY cc own nL ret ini hh rm D tys z l Q (kc + rm'.cells) (ks + rm'.slots) pc lv k S') :
    ∃ t, Steps p.tables e below (doInvoke e ((T.setVm vm₁).setTop (F0 m pc ls st)) [] mk av.toArray).1 t ∧ ∃ o, t.status = .running ∧ Ended t below o ∧ tG D tys z Q rm s o t := by
  have hTT : tT z (T.setVm vm₁) := X.2.2.2.2.1.moved X₁.warmed (by show ∀ q : Nat, q < z.1 → T.heap[q]? = s.heap[q]?; rw [hT]; exact tS_low hH.2.2.1 hH.2.2.2)
  have hU : tU D tys z S (T.setVm vm₁) := ⟨hTT, va_K.moved X₁.warmed.alike X.2.2.2.2.2.1, by show va_P D cls (tW S) T.heap; rw [hT]; exact hH.1, hH.2.1, by show z.1 ≤ T.heap.size; rw [hT]; exact Nat.le_trans hH.2.2.2 hH.2.2.1.1⟩
  obtain ⟨U', L, Y, hL, hz, hk, S', hU', ho⟩ := tBack (g := F0 m pc ls st) hM X₁ rfl (hl.1.trans X.2.2.1.symm) (by rw [X.2.1]; exact hd) (lv_room hcat) (X₁.named hnm) hR.1 hR.2.1 hR.2.2.1 hR.2.2.2 (hTT.1 _ w5 _) (hTT.1 _ w4 _) hU
  have hz' : H.size ≤ U'.heap.size := by rw [← hT]; exact hz
  have hk' : ∀ q : Nat, q < H.size → ¬ tA z q → U'.heap[q]? = H[q]? := by rw [← hT]; exact hk
  have hH' : tH D z S' s.heap U'.heap (locs ++ L) := by
    refine ⟨hU'.2.2.1, hU'.2.2.2.1, ⟨Nat.le_trans hH.2.2.1.1 hz', fun q h1 h2 => (hk' q (Nat.lt_of_lt_of_le h1 hH.2.2.1.1) h2).trans (hH.2.2.1.2.1 q h1 h2), fun q hq => ?_⟩, hH.2.2.2⟩
    rcases List.mem_append.mp hq with h | h
    · exact hH.2.2.1.2.2 q h
    · exact hL q h
  rcases ho with ⟨v, hv, hst⟩ | ⟨a, k, C, cell, hv, hC, hcl, hcv, hcf, hst⟩
  · obtain ⟨t, h1, h2⟩ := kk v S' hv p e s m args below meth c U'.heap (locs ++ L) ls X hH' hl U' rfl Y
    exact ⟨t, hst.trans h1, h2⟩
  · obtain ⟨t, h1, h2⟩ := kt k S' hv p e s m args below meth c U' (locs ++ L) ls st a C cell X hH' hl Y hC hcl hcv hcf
    exact ⟨t, hst.trans h1, h2⟩
/-- an instance method, public or private, chosen by the receiver's own class -/
theorem tt_callV {y : MethodName} {bytes : ByteArray} {nL' : Nat} {ret' : Option FieldType} {hh' : List (Nat × Nat × Nat × Nat)} {rm' : Room} {Q' : tO → tS → Prop} {i ci b : Nat} {C : String} {T0 : u_T} {N : Nat} {fs As : List Value} 
    (w1 : Cond.methodLink own i y ∈ gW) (w2 : Cond.instanceMethod y ∈ gW) (w3 : Cond.selects C y y ∈ gW) (w4 : Cond.initialized y.cls ∈ gW) (w5 : tCw y bytes nL' ret' hh' ∈ gW) (hy : y.cls ≠ "java/lang/invoke/MethodHandle" ∧ y.cls ≠ "java/lang/invoke/VarHandle" ∧ (parseMethodDescriptor y.desc).map (fun d => d.parameters.length) = some As.length)
    (hM : tM l y bytes nL' ret' hh' rm' D tys z (.ref b :: As) S Q') (hb : b ∈ S.1) (hf : S.2 b = .inr (ci, fs)) (hc : cls[ci]? = some (C, T0, N))
    (hR : rm'.frames + 1 ≤ rm.frames ∧ 8 + (nL' + 11) + rm'.locals ≤ rm.locals ∧ kc + rm'.cells ≤ rm.cells ∧ ks + rm'.slots ≤ rm.slots) (hcat : (st.map fun v => v.category).sum ≤ 8) (hd : decode cc pc = .ok (.invokevirtual i, 3)) {st0 : List Value} (hst : As.reverse ++ .ref b :: st = st0)
    (kk : ∀ v S', Q' (.inl v) S' → tP cc own nL ret ini hh rm D tys z l Q (kc + rm'.cells) (ks + rm'.slots) (pc + 3) lv (v.toList ++ st) S')
    (kt : ∀ k S', Q' (.inr k) S' → tY cc own nL ret ini hh rm D tys z l Q (kc + rm'.cells) (ks + rm'.slots) pc lv k S') : tP cc own nL ret ini hh rm D tys z l Q kc ks pc lv st0 S := by
  intro p e s m args below meth c H locs ls X hH hl T hT Y
  subst hst
  have hts : ∀ w ∈ gW, w.before args s = true := fun w hw => X.2.2.2.2.1.1 w hw args
  obtain ⟨mk, methM, hnamed, hmethM, hstM, habM⟩ := Cond.instanceMethod_spec (hts _ w2)
  obtain ⟨methM', cM, hmethM', -, -, hsigM⟩ := tCw_spec hnamed (hts _ w5)
  cases hmethM.symm.trans hmethM'
  obtain ⟨q, hq⟩ := va_pl_get (X := []) (f := S.2) hb
  rw [hf] at hq
  obtain ⟨cellB, hcB, hoB, hclB⟩ := va_recv X.2.2.2.2.2.1 hH.1 (q := (C, T0, N)) (ci := ci) (q0 := q) hc hq
  obtain ⟨c2, r2, m2, q1, q2, q3, q4, kP, hkP, hkPi⟩ := Cond.selects_spec (hts _ w3)
  cases hclB.symm.trans q1
  cases (State.methodFound?_of_named hnamed ⟨hy.1, hy.2.1⟩).symm.trans q2
  cases hnamed.symm.trans q3
  have hselP : selectMethod e.platform s.vm cellB.cls mk = .method mk := by rw [Launch.admits_selectMethod Y.admits]; exact q4
  have hlen : As.length = methM.sig.parameters.length := by
    have h2 := hy.2.2
    rw [hsigM] at h2
    exact (Option.some.inj h2).symm
  obtain ⟨vm₁, X₁, hstep₁⟩ := Y.invokevirtual X.1 X.2.2.2.1 (hts _ w1) hnamed hmethM hstM hkP hkPi ⟨hy.1, hy.2.1⟩ (a := b) (cell := cellB) (by rw [hT]; exact hcB)
    (fun z h => by rw [h] at hoB; cases hoB) hselP hmethM habM hkP hkPi (g := F0 m pc ls (As.reverse ++ .ref b :: st)) rfl (argsL := As) (rest := st) hlen rfl (by rw [X.2.1]; exact hd)
  obtain ⟨t, h1, h2⟩ := tt_back (args := args) X hH hl hT X₁ hM hnamed w4 w5 hR hcat hd kk kt
  exact ⟨t, hstep₁ _ fun acts => by rw [doInvoke_state]; exact h1, h2⟩
theorem tt_callS {y : MethodName} {bytes : ByteArray} {nL' : Nat} {ret' : Option FieldType} {hh' : List (Nat × Nat × Nat × Nat)} {rm' : Room} {Q' : tO → tS → Prop} {i : Nat} {As : List Value} 
    (w1 : Cond.methodLink own i y ∈ gW) (w2 : Cond.static y ∈ gW) (w4 : Cond.initialized y.cls ∈ gW) (w5 : tCw y bytes nL' ret' hh' ∈ gW) (hy : y.cls ≠ "java/lang/invoke/MethodHandle" ∧ y.cls ≠ "java/lang/invoke/VarHandle" ∧ (parseMethodDescriptor y.desc).map (fun d => d.parameters.length) = some As.length)
    (hM : tM l y bytes nL' ret' hh' rm' D tys z As S Q')
    (hR : rm'.frames + 1 ≤ rm.frames ∧ 8 + (nL' + 11) + rm'.locals ≤ rm.locals ∧ kc + rm'.cells ≤ rm.cells ∧ ks + rm'.slots ≤ rm.slots) (hcat : (st.map fun v => v.category).sum ≤ 8) (hd : decode cc pc = .ok (.invokestatic i, 3)) {st0 : List Value} (hst : As.reverse ++ st = st0)
    (kk : ∀ v S', Q' (.inl v) S' → tP cc own nL ret ini hh rm D tys z l Q (kc + rm'.cells) (ks + rm'.slots) (pc + 3) lv (v.toList ++ st) S')
    (kt : ∀ k S', Q' (.inr k) S' → tY cc own nL ret ini hh rm D tys z l Q (kc + rm'.cells) (ks + rm'.slots) pc lv k S') : tP cc own nL ret ini hh rm D tys z l Q kc ks pc lv st0 S := by
  intro p e s m args below meth c H locs ls X hH hl T hT Y
  subst hst
  have hts : ∀ w ∈ gW, w.before args s = true := fun w hw => X.2.2.2.2.1.1 w hw args
  obtain ⟨mk, hnamed⟩ : ∃ mk, s.methodNamed? y = some mk := by
    have h5 := hts _ w5
    unfold tCw at h5
    split at h5
    · exact Cond.code_named h5
    · obtain ⟨m9, methY, cY, hn9, -⟩ := Cond.codeWith_spec h5
      exact ⟨m9, hn9⟩
  obtain ⟨methM, cM, hmethM, -, -, hsigM⟩ := tCw_spec hnamed (hts _ w5)
  have hstatic : methM.isStatic = true := Cond.static_spec hnamed hmethM (hts _ w2)
  obtain ⟨kP, hkP, -⟩ := className_of_methodNamed hnamed
  have hinitP : kP.init = .initialized := Cond.initialized_spec (findClass_of_methodNamed hnamed) hkP (hts _ w4)
  have hlen : As.length = methM.sig.parameters.length := by
    have h2 := hy.2.2
    rw [hsigM] at h2
    exact (Option.some.inj h2).symm
  obtain ⟨vm₁, X₁, hstep₁⟩ := Y.invokestatic X.1 X.2.2.2.1 (hts _ w1) hnamed hmethM hstatic hkP hinitP ⟨hy.1, hy.2.1⟩ (g := F0 m pc ls (As.reverse ++ st)) rfl (argsL := As) (rest := st) hlen rfl (by rw [X.2.1]; exact hd)
  obtain ⟨t, h1, h2⟩ := tt_back (args := args) X hH hl hT X₁ hM hnamed w4 w5 hR hcat hd kk kt
  exact ⟨t, hstep₁ _ fun acts => by rw [doInvoke_state]; exact h1, h2⟩
/-- a constructor -/
theorem tt_callI {y : MethodName} {bytes : ByteArray} {nL' : Nat} {rm' : Room} {Q' : tO → tS → Prop} {i b : Nat} {As : List Value} 
    (w1 : Cond.methodLink own i y ∈ gW) (w2 : Cond.instanceMethod y ∈ gW) (w4 : Cond.initialized y.cls ∈ gW) (w5 : Cond.code y bytes nL' none ∈ gW) (hy1 : y.name = "<init>") (hy : y.cls ≠ "java/lang/invoke/MethodHandle" ∧ y.cls ≠ "java/lang/invoke/VarHandle" ∧ (parseMethodDescriptor y.desc).map (fun d => d.parameters.length) = some As.length)
    (hM : tM l y bytes nL' none [] rm' D tys z (.ref b :: As) S Q')
    (hR : rm'.frames + 1 ≤ rm.frames ∧ 8 + (nL' + 11) + rm'.locals ≤ rm.locals ∧ kc + rm'.cells ≤ rm.cells ∧ ks + rm'.slots ≤ rm.slots) (hcat : (st.map fun v => v.category).sum ≤ 8) (hd : decode cc pc = .ok (.invokespecial i, 3)) {st0 : List Value} (hst : As.reverse ++ .ref b :: st = st0)
    (kk : ∀ v S', Q' (.inl v) S' → tP cc own nL ret ini hh rm D tys z l Q (kc + rm'.cells) (ks + rm'.slots) (pc + 3) lv (v.toList ++ st) S')
    (kt : ∀ k S', Q' (.inr k) S' → tY cc own nL ret ini hh rm D tys z l Q (kc + rm'.cells) (ks + rm'.slots) pc lv k S') : tP cc own nL ret ini hh rm D tys z l Q kc ks pc lv st0 S := by
  intro p e s m args below meth c H locs ls X hH hl T hT Y
  subst hst
  have hts : ∀ w ∈ gW, w.before args s = true := fun w hw => X.2.2.2.2.1.1 w hw args
  have hpl : e.platform.magicAccessors = ({} : Platform).magicAccessors := by rw [Y.admits.platform]
  have hlen : ∀ sig, parseMethodDescriptor y.desc = some sig → As.length = sig.parameters.length := fun sig h => by
    have h2 := hy.2.2
    rw [h] at h2
    exact (Option.some.inj h2).symm
  obtain ⟨mk, methM, cM, kP, vm₁, hnamed, hmethM, hcodeM, -, hlocalsM, -, hkP, -, hW₁, hstep₁⟩ := Steps.initColdArgs (e := e) Y.here X.1 Y.warmed hpl X.2.2.2.1 hy1 ⟨hy.1, hy.2.1⟩ (hts _ w1) (hts _ w2) (hts _ w5) (f := F0 m pc ls (As.reverse ++ .ref b :: st)) rfl hlen rfl (by rw [X.2.1]; exact hd)
  have X₁ := Y.noted hW₁
  obtain ⟨t, h1, h2⟩ := tt_back (args := args) X hH hl hT X₁ hM hnamed w4 w5 hR hcat hd kk kt
  exact ⟨t, hstep₁ _ fun acts => by rw [doInvoke_state]; exact h1, h2⟩
theorem tt_objInit {i a : Nat} (w1 : Cond.methodLink own i Lib.objectInit ∈ gW) (w2 : Cond.instanceMethod Lib.objectInit ∈ gW) (w3 : Cond.code Lib.objectInit ⟨#[0xb1]⟩ 1 none ∈ gW) (hR : 1 ≤ rm.frames ∧ (st.map fun v => v.category).sum + 12 ≤ rm.locals) (hd : decode cc pc = .ok (.invokespecial i, 3)) (kk : tP cc own nL ret ini hh rm D tys z l Q kc ks (pc + 3) lv st S) : tP cc own nL ret ini hh rm D tys z l Q kc ks pc lv (.ref a :: st) S := by
  intro p e s m args below meth c H locs ls X hH hl
  have hts : ∀ w ∈ gW, w.before args s = true := fun w hw => X.2.2.2.2.1.1 w hw args
  refine W.objInit X.1 X.2.1 X.2.2.2.1 (hts _ w1) (hts _ w2) (hts _ w3) rfl (hl.1.trans X.2.2.1.symm) rfl hd hR.1 (by simpa using hR.2) ?_
  exact kk p e s m args below meth c H locs ls X hH hl
theorem tt_mmax {i : Nat} {x y : Int32} (w1 : Cond.methodLink own i Lib.Math.max.name ∈ gW) (w2 : Cond.static Lib.Math.max.name ∈ gW) (w3 : Cond.initialized "java/lang/Math" ∈ gW) (w4 : Cond.code Lib.Math.max.name Lib.Math.max.code 2 (some .int) ∈ gW) (hR : 1 ≤ rm.frames ∧ (st.map fun v => v.category).sum + 13 ≤ rm.locals ∧ kc ≤ rm.cells ∧ ks ≤ rm.slots) (hd : decode cc pc = .ok (.invokestatic i, 3)) (kk : tP cc own nL ret ini hh rm D tys z l Q kc ks (pc + 3) lv (.int (if x < y then y else x) :: st) S) : tP cc own nL ret ini hh rm D tys z l Q kc ks pc lv (.int y :: .int x :: st) S := by
  intro p e s m args below meth c H locs ls X hH hl
  have hts : ∀ w ∈ gW, w.before args s = true := fun w hw => X.2.2.2.2.1.1 w hw args
  exact va_mmax X.1 X.2.1 (X.2.2.1.trans hl.1.symm) X.2.2.2.1 (hts _ w1) (hts _ w2) (hts _ w3) (hts _ w4) hR.1 hR.2.1 hR.2.2.1 hR.2.2.2 hd (kk p e s m args below meth c H locs ls X hH hl)
theorem tt_mmin {i : Nat} {x y : Int32} (w1 : Cond.methodLink own i Lib.Math.min.name ∈ gW) (w2 : Cond.static Lib.Math.min.name ∈ gW) (w3 : Cond.initialized "java/lang/Math" ∈ gW) (w4 : Cond.code Lib.Math.min.name Lib.Math.min.code 2 (some .int) ∈ gW) (hR : 1 ≤ rm.frames ∧ (st.map fun v => v.category).sum + 13 ≤ rm.locals ∧ kc ≤ rm.cells ∧ ks ≤ rm.slots) (hd : decode cc pc = .ok (.invokestatic i, 3)) (kk : tP cc own nL ret ini hh rm D tys z l Q kc ks (pc + 3) lv (.int (if y < x then y else x) :: st) S) : tP cc own nL ret ini hh rm D tys z l Q kc ks pc lv (.int y :: .int x :: st) S := by
  intro p e s m args below meth c H locs ls X hH hl
  have hts : ∀ w ∈ gW, w.before args s = true := fun w hw => X.2.2.2.2.1.1 w hw args
  exact va_mmin X.1 X.2.1 (X.2.2.1.trans hl.1.symm) X.2.2.2.1 (hts _ w1) (hts _ w2) (hts _ w3) (hts _ w4) hR.1 hR.2.1 hR.2.2.1 hR.2.2.2 hd (kk p e s m args below meth c H locs ls X hH hl)
end TR
