/-! ===== rows: new cells, copies, longs, nulls, switches; contracts of methods with handlers ===== -/
theorem tM.ofW {l : Launch} {y : MethodName} {cc : ByteArray} {own : String} {nL : Nat} {ret : Option FieldType} {hh : List (Nat × Nat × Nat × Nat)} {rm : Room} {D : va_G} {tys : List (ClassId × FieldType)} {z : tZ} {av : List Value} {S : tS} {Q : tO → tS → Prop}
    (hy : plainFor y = true) (ho : y.cls = own) (hne : hh ≠ []) (hn : (lg_sl av).length ≤ nL) {lv : List (Nat × Value)} (hlv : lv_args 0 av = lv) (h : tP cc own nL ret false hh rm D tys z l Q 0 0 0 lv [] S) : tM l y cc nL ret hh rm D tys z av S Q := by
  have hcw : tCw y cc nL ret hh = .codeWith y cc nL ret hh := if_neg hne
  unfold tM
  rw [hcw]
  refine MetFree.of_bodySF (code := cc) (maxLocals := nL) (ret := ret) hy ?_ ?_
  · intro args s m h hn
    obtain ⟨m9, meth, c, hn9, h1, h2, h3, h4, -, h5, h6, -⟩ := Cond.codeWith_spec (atoms_spec (ws := [Cond.codeWith y cc nL ret hh]) h _ List.mem_cons_self)
    cases hn.symm.trans hn9
    exact ⟨meth, c, h1, h2, h3, h4, h5, h6⟩
  · intro p e s m args below meth c s₁ B hml hv _
    have hh0 : s₁.heap = s.heap := by rw [B.state]; rfl
    obtain ⟨m9, meth9, c9, hn9, g1, g2, -, -, g5, -, -, -⟩ := Cond.codeWith_spec (atoms_spec (ws := [Cond.codeWith y cc nL ret hh]) B.pre _ List.mem_cons_self)
    cases B.named.symm.trans hn9
    cases B.method.symm.trans g1
    cases (Stand.of_body B).code.symm.trans g2
    obtain ⟨rfl, h1, h2, h3, h4, h5⟩ := hv
    have hl := lv_entry av (n := nL) hn
    subst hlv
    subst ho
    have K := h p e s m av.toArray below meth c s.heap [] _ ⟨B.exec, B.bytes, hml, findClass_of_methodNamed B.named, h1, h2, B.returns, B.notSynchronized, (fun h9 => by cases h9), g5⟩ ⟨h3, h4, va_S.rf, h5⟩ hl
    rw [← lg_entry_eq] at K
    obtain ⟨t, a1, o, b1, b2, b3⟩ := K s₁ hh0 (Stand.of_body B)
    exact ⟨t, o, a1, b1, b2, b3⟩
theorem tW_new {A : Nat → Prop} {S : tS} {q : Nat} {e : va_E} (hD : va_D A (tW S ++ [(q, e)])) : q ∉ S.1 ∧ A q ∧ tW S ++ [(q, e)] = tW (tnew S q e) := by
  have hq : q ∉ S.1 := by
    intro h
    obtain ⟨k, hk⟩ := List.getElem?_of_mem (show (q, S.2 q) ∈ tW S from List.mem_map.mpr ⟨q, h, rfl⟩)
    have hl := (List.getElem?_eq_some_iff.mp hk).1
    have h1 : (tW S ++ [(q, e)])[k]? = some (q, S.2 q) := by rw [List.getElem?_append_left hl]; exact hk
    have h2 : (tW S ++ [(q, e)])[(tW S).length]? = some (q, e) := by simp
    have := hD.1 _ _ _ _ h1 h2 rfl
    omega
  exact ⟨hq, hD.2 (tW S).length (q, e) (by simp), va_pl_push hq⟩
section TN
variable {cc : ByteArray} {own : String} {nL : Nat} {ret : Option FieldType} {ini : Bool} {hh : List (Nat × Nat × Nat × Nat)} {rm : Room} {D : va_G} {tys : List (ClassId × FieldType)} {z : tZ} {l : Launch} {Q : tO → tS → Prop} {kc ks : Nat} {pc : Nat} {lv : List (Nat × Value)} {st : List Value} {S : tS}
theorem tt_new {ic ci N : Nat} {C : String} {T0 : u_T} {ty : Nat → FieldType} {fs : List Value} (hc : cls[ci]? = some (C, T0, N)) (hin : ∀ w ∈ u_ws C T0 N, w ∈ gW) (hty : ∀ k, k < N → parseFieldDescriptor (T0 k).2.2.1 = some (ty k)) (w1 : Cond.classLink own ic C ∈ gW) (w2 : Cond.instantiable C N ∈ gW) (w3 : Cond.initialized C ∈ gW)
    (hfs : ∀ j, j < N → defaultValue (ty j) = vp_V fs j) (hR : kc + 1 ≤ rm.cells ∧ ks + N ≤ rm.slots) (hd : decode cc pc = .ok (.new ic, 3)) (kk : ∀ q, q ∉ S.1 → z.1 ≤ q → tP cc own nL ret ini hh rm D tys z l Q (kc + 1) (ks + N) (pc + 3) lv (.ref q :: st) (tnew S q (.inr (ci, fs)))) : tP cc own nL ret ini hh rm D tys z l Q kc ks pc lv st S := by
  intro p e s m args below meth c H locs ls X hH hl
  have hts : ∀ w ∈ gW, w.before args s = true := fun w hw => X.2.2.2.2.1.1 w hw args
  refine va_new (D := D) (cl := cls) X.1 X.2.1 hts hin ty hty X.2.2.2.1 (hts _ w1) (hts _ w2) (hts _ w3) X.2.2.2.2.2.1 hH.1 hH.2.1 hH.2.2.1 (fun q h => Nat.le_trans hH.2.2.2 h) hc hfs hR.1 hR.2 hd (fun q H1 g1 g2 g3 => ?_)
  obtain ⟨hq, hz, he⟩ := tW_new g2
  rw [he] at g1 g2
  exact kk q hq hz p e s m args below meth c H1 locs ls X ⟨g1, g2, g3, hH.2.2.2⟩ hl
theorem tt_newa (t0 : Nat) {cA : ClassId} {atype : ArrayType} {ty : FieldType} {a0 : vp_A} {n : Int32} {N' : Nat} (hty : newarray.typeOf atype = ty) (hprim : ∀ C, ty ≠ .object C) (w1 : Cond.arrayClass ty ∈ gW) (ht : tys[t0]? = some (cA, ty)) (ha : ∀ cA : ClassId, vp_cell cA a0 = arrV cA N' (fun _ => defaultValue ty)) (hn : ¬ n < 0) (hN : n.toNatClampNeg = N') (hb : N' * componentBytes ty ≤ 536870912) (hR : kc + 1 ≤ rm.cells ∧ ks + N' ≤ rm.slots) (hd : decode cc pc = .ok (.newarray atype, 2))
    (kk : ∀ q, q ∉ S.1 → z.1 ≤ q → tP cc own nL ret ini hh rm D tys z l Q (kc + 1) (ks + N') (pc + 2) lv (.ref q :: st) (tnew S q (.inl (cA, a0)))) : tP cc own nL ret ini hh rm D tys z l Q kc ks pc lv (.int n :: st) S := by
  intro p e s m args below meth c H locs ls X hH hl
  have hts : ∀ w ∈ gW, w.before args s = true := fun w hw => X.2.2.2.2.1.1 w hw args
  refine va_newa (D := D) (cl := cls) X.1 X.2.1 (by rw [hty]; exact hts _ w1) hty X.2.2.2.2.2.1 hH.1 hH.2.1 hH.2.2.1 (fun q h => Nat.le_trans hH.2.2.2 h) ha hn hN hb hR.1 hR.2 hd (fun q cA' H1 gK g1 g2 g3 => ?_)
  have e1 : cA' = cA := by
    have h1 := (gK.2 tys.length (cA', ty) (by simp)).2
    have h2 := (X.2.2.2.2.2.1.2 t0 (cA, ty) ht).2
    cases ty with
    | object C => exact absurd rfl (hprim C)
    | _ => exact Option.some.inj (Eq.trans (Eq.symm h1) h2)
  subst e1
  obtain ⟨hq, hz, he⟩ := tW_new g2
  rw [he] at g1 g2
  exact kk q hq hz p e s m args below meth c H1 locs ls X ⟨g1, g2, g3, hH.2.2.2⟩ hl
theorem tt_newq (t0 : Nat) {cA : ClassId} {ic : Nat} {C : String} {n : Int32} {N' : Nat} (w1 : Cond.classLink own ic C ∈ gW) (w2 : Cond.arrayOver (.object C) ∈ eW) (ht : tys[t0]? = some (cA, .object C)) (hn : ¬ n < 0) (hN : n.toNatClampNeg = N') (hb : N' * 4 ≤ 536870912) (hR : kc + 1 ≤ rm.cells ∧ ks + N' ≤ rm.slots) (hd : decode cc pc = .ok (.anewarray ic, 3))
    (kk : ∀ q, q ∉ S.1 → z.1 ≤ q → tP cc own nL ret ini hh rm D tys z l Q (kc + 1) (ks + N') (pc + 3) lv (.ref q :: st) (tnew S q (.inl (cA, N', .inr (.inr (.inr (.inr (fun _ => none)))))))) : tP cc own nL ret ini hh rm D tys z l Q kc ks pc lv (.int n :: st) S := by
  intro p e s m args below meth c H locs ls X hH hl
  have hts : ∀ w ∈ gW, w.before args s = true := fun w hw => X.2.2.2.2.1.1 w hw args
  refine va_newq (D := D) (cl := cls) X.1 X.2.1 X.2.2.2.1 (hts _ w1) (va_AO.of (X.2.2.2.2.1.2.1 s (State.WarmedH.refl s) (fun _ _ => rfl) _ w2 args)) X.2.2.2.2.2.1 hH.1 hH.2.1 hH.2.2.1 (fun q h => Nat.le_trans hH.2.2.2 h) hn hN hb hR.1 hR.2 hd (fun q cA' H1 gK g1 g2 g3 => ?_)
  have e1 : cA' = cA := by
    obtain ⟨kA, comp, -, -, -, h1⟩ := (gK.2 tys.length (cA', .object C) (by simp)).2
    obtain ⟨kA2, comp2, -, -, -, h2⟩ := (X.2.2.2.2.2.1.2 t0 (cA, .object C) ht).2
    exact Option.some.inj (h1.symm.trans h2)
  subst e1
  obtain ⟨hq, hz, he⟩ := tW_new g2
  rw [he] at g1 g2
  exact kk q hq hz p e s m args below meth c H1 locs ls X ⟨g1, g2, g3, hH.2.2.2⟩ hl
theorem tt_aast (t0 : Nat) {ci N : Nat} {C : String} {T0 : u_T} {cA : ClassId} {n : Nat} {f : Nat → Option Nat} {a v : Nat} {vs : List Value} {i : Int32} (hd : decode cc pc = .ok (.aastore, 1)) (hc : cls[ci]? = some (C, T0, N)) (ht : tys[t0]? = some (cA, .object C)) (ha : a ∈ S.1) (hf : S.2 a = .inl (cA, n, .inr (.inr (.inr (.inr f))))) (hv : v ∈ S.1) (hvf : S.2 v = .inr (ci, vs)) (hin : vp_in i n) (kk : tP cc own nL ret ini hh rm D tys z l Q kc ks (pc + 1) lv st (tset S a (.inl (cA, n, .inr (.inr (.inr (.inr (va_up f i.toNatClampNeg (some v))))))))) : tP cc own nL ret ini hh rm D tys z l Q kc ks pc lv (.ref v :: .int i :: .ref a :: st) S := by
  intro p e s m args below meth c H locs ls X hH hl
  obtain ⟨q, hq⟩ := va_pl_get (X := []) (f := S.2) ha
  have hs := va_pl_set (X := []) (e := .inl (cA, n, .inr (.inr (.inr (.inr (va_up f i.toNatClampNeg (some v))))))) hH.2.1 ha hq
  rw [hf] at hq
  obtain ⟨q2, hq2⟩ := va_pl_get (X := []) (f := S.2) hv
  rw [hvf] at hq2
  refine va_astq (D := D) (cl := cls) (r := (C, T0, N)) X.1 X.2.1 X.2.2.2.2.2.1 hH.1 hH.2.1 hH.2.2.1 q t0 q2 ci hq ht hq2 hc hin hd (fun H1 locs1 g1 g2 g3 => ?_)
  have e1 : (tW S).set q (a, .inl (cA, n, .inr (.inr (.inr (.inr (va_up f i.toNatClampNeg (some v))))))) = tW (tset S a (.inl (cA, n, .inr (.inr (.inr (.inr (va_up f i.toNatClampNeg (some v)))))))) := hs
  rw [e1] at g1 g2
  exact kk p e s m args below meth c H1 locs1 ls X ⟨g1, g2, g3, hH.2.2.2⟩ hl
theorem tt_copy (t0 t1 : Nat) {i a0 a : Nat} {c0 c1 : ClassId} {n0 n1 : Nat} {f g : Nat → Int32} {ty : FieldType} {sp dp n : Int32} (w1 : Cond.methodLink own i arraycopyName ∈ gW) (w2 : Cond.native arraycopyName ∈ gW) (w3 : Cond.static arraycopyName ∈ gW) (w4 : Cond.initialized "java/lang/System" ∈ gW)
    (ha0 : a0 ∈ S.1) (hf0 : S.2 a0 = .inl (c0, n0, .inl f)) (ha1 : a ∈ S.1) (hf1 : S.2 a = .inl (c1, n1, .inl g)) (ht0 : tys[t0]? = some (c0, ty)) (ht1 : tys[t1]? = some (c1, ty)) (hprim : refKind ty = false) (h1 : ¬ sp < 0) (h2 : ¬ dp < 0) (h3 : ¬ n < 0) (h4 : sp.toNatClampNeg + n.toNatClampNeg ≤ n0) (h5 : dp.toNatClampNeg + n.toNatClampNeg ≤ n1) (hfit : ∀ i, i < n.toNatClampNeg → fits ty (.int (f (sp.toNatClampNeg + i))) = true)
    (hR : 1 ≤ rm.frames ∧ (st.map fun v => v.category).sum + (nativeFrameWords "java/lang/System" "arraycopy" 5 + 11) ≤ rm.locals) (hd : decode cc pc = .ok (.invokestatic i, 3)) (kk : tP cc own nL ret ini hh rm D tys z l Q kc ks (pc + 3) lv st (tset S a (.inl (c1, n1, .inl (va_cpy f g sp.toNatClampNeg dp.toNatClampNeg n.toNatClampNeg))))) : tP cc own nL ret ini hh rm D tys z l Q kc ks pc lv (.int n :: .int dp :: .ref a :: .int sp :: .ref a0 :: st) S := by
  intro p e s m args below meth c H locs ls X hH hl
  have hts : ∀ w ∈ gW, w.before args s = true := fun w hw => X.2.2.2.2.1.1 w hw args
  obtain ⟨q0, hq0⟩ := va_pl_get (X := []) (f := S.2) ha0
  rw [hf0] at hq0
  obtain ⟨q1, hq1⟩ := va_pl_get (X := []) (f := S.2) ha1
  have hs := va_pl_set (X := []) (e := .inl (c1, n1, .inl (va_cpy f g sp.toNatClampNeg dp.toNatClampNeg n.toNatClampNeg))) hH.2.1 ha1 hq1
  rw [hf1] at hq1
  refine va_copyi (D := D) (cl := cls) X.1 X.2.1 (X.2.2.1.trans hl.1.symm) X.2.2.2.1 (hts _ w1) (hts _ w2) (hts _ w3) (hts _ w4) X.2.2.2.2.2.1 hH.1 hH.2.1 hH.2.2.1 q0 q1 t0 t1 hq0 hq1 ht0 ht1 hprim h1 h2 h3 h4 h5 hfit hR.1 hR.2 hd (fun H1 locs1 g1 g2 g3 => ?_)
  have e1 : (tW S).set q1 (a, .inl (c1, n1, .inl (va_cpy f g sp.toNatClampNeg dp.toNatClampNeg n.toNatClampNeg))) = tW (tset S a (.inl (c1, n1, .inl (va_cpy f g sp.toNatClampNeg dp.toNatClampNeg n.toNatClampNeg)))) := hs
  rw [e1] at g1 g2
  exact kk p e s m args below meth c H1 locs1 ls X ⟨g1, g2, g3, hH.2.2.2⟩ hl
theorem tt_lald (t0 : Nat) {cA : ClassId} {n : Nat} {f : Nat → Int64} {a : Nat} {i : Int32} (hd : decode cc pc = .ok (.laload, 1)) (ht : tys[t0]? = some (cA, .long)) (ha : a ∈ S.1) (hf : S.2 a = .inl (cA, n, .inr (.inl f))) (hin : vp_in i n) (kk : tP cc own nL ret ini hh rm D tys z l Q kc ks (pc + 1) lv (.long (f i.toNatClampNeg) :: st) S) : tP cc own nL ret ini hh rm D tys z l Q kc ks pc lv (.int i :: .ref a :: st) S := by
  intro p e s m args below meth c H locs ls X hH hl
  obtain ⟨q, hq⟩ := va_pl_get (X := []) (f := S.2) ha
  rw [hf] at hq
  exact va_lald (D := D) (cl := cls) X.1 X.2.1 X.2.2.2.2.2.1 hH.1 q t0 hq ht hin hd (kk p e s m args below meth c H locs ls X hH hl)
theorem tt_last (t0 : Nat) {cA : ClassId} {n : Nat} {f : Nat → Int64} {a : Nat} {i : Int32} {x : Int64} (hd : decode cc pc = .ok (.lastore, 1)) (ht : tys[t0]? = some (cA, .long)) (ha : a ∈ S.1) (hf : S.2 a = .inl (cA, n, .inr (.inl f))) (hin : vp_in i n) (kk : tP cc own nL ret ini hh rm D tys z l Q kc ks (pc + 1) lv st (tset S a (.inl (cA, n, .inr (.inl (vp_updL f i.toNatClampNeg x)))))) : tP cc own nL ret ini hh rm D tys z l Q kc ks pc lv (.long x :: .int i :: .ref a :: st) S := by
  intro p e s m args below meth c H locs ls X hH hl
  obtain ⟨q, hq⟩ := va_pl_get (X := []) (f := S.2) ha
  have hs := va_pl_set (X := []) (e := .inl (cA, n, .inr (.inl (vp_updL f i.toNatClampNeg x)))) hH.2.1 ha hq
  rw [hf] at hq
  refine va_last (D := D) (cl := cls) X.1 X.2.1 X.2.2.2.2.2.1 hH.1 hH.2.1 hH.2.2.1 q t0 hq ht hin hd (fun H1 locs1 g1 g2 g3 => ?_)
  have e1 : (tW S).set q (a, .inl (cA, n, .inr (.inl (vp_updL f i.toNatClampNeg x)))) = tW (tset S a (.inl (cA, n, .inr (.inl (vp_updL f i.toNatClampNeg x))))) := hs
  rw [e1] at g1 g2
  exact kk p e s m args below meth c H1 locs1 ls X ⟨g1, g2, g3, hH.2.2.2⟩ hl
theorem tt_lcmp {x y : Int64} (hd : decode cc pc = .ok (.lcmp, 1)) (k : tP cc own nL ret ini hh rm D tys z l Q kc ks (pc + 1) lv (.int (lg_cmp x y) :: st) S) : tP cc own nL ret ini hh rm D tys z l Q kc ks pc lv (.long y :: .long x :: st) S :=
  fun p e s m args below meth c H locs ls X hH hl => W.lcmp X.1 X.2.1 hd (k p e s m args below meth c H locs ls X hH hl)
theorem tt_ladd {x y : Int64} (hd : decode cc pc = .ok (.ladd, 1)) (k : tP cc own nL ret ini hh rm D tys z l Q kc ks (pc + 1) lv (.long (x + y) :: st) S) : tP cc own nL ret ini hh rm D tys z l Q kc ks pc lv (.long y :: .long x :: st) S :=
  fun p e s m args below meth c H locs ls X hH hl => lv_ladd X.1 X.2.1 hd (k p e s m args below meth c H locs ls X hH hl)
theorem tt_lmul {x y : Int64} (hd : decode cc pc = .ok (.lmul, 1)) (k : tP cc own nL ret ini hh rm D tys z l Q kc ks (pc + 1) lv (.long (x * y) :: st) S) : tP cc own nL ret ini hh rm D tys z l Q kc ks pc lv (.long y :: .long x :: st) S :=
  fun p e s m args below meth c H locs ls X hH hl => lv_lmul X.1 X.2.1 hd (k p e s m args below meth c H locs ls X hH hl)
theorem tt_lor {x y : Int64} (hd : decode cc pc = .ok (.lor, 1)) (k : tP cc own nL ret ini hh rm D tys z l Q kc ks (pc + 1) lv (.long (x ||| y) :: st) S) : tP cc own nL ret ini hh rm D tys z l Q kc ks pc lv (.long y :: .long x :: st) S :=
  fun p e s m args below meth c H locs ls X hH hl => lv_lor X.1 X.2.1 hd (k p e s m args below meth c H locs ls X hH hl)
theorem tt_lshl {x : Int64} {y : Int32} (hd : decode cc pc = .ok (.lshl, 1)) (k : tP cc own nL ret ini hh rm D tys z l Q kc ks (pc + 1) lv (.long (x <<< (y.toInt64 &&& 63)) :: st) S) : tP cc own nL ret ini hh rm D tys z l Q kc ks pc lv (.int y :: .long x :: st) S :=
  fun p e s m args below meth c H locs ls X hH hl => lv_lshl X.1 X.2.1 hd rfl (k p e s m args below meth c H locs ls X hH hl)
theorem tt_lconst {n : Fin 2} {v : Int64} (hd : decode cc pc = .ok (.lconst n, 1)) (hv : Int64.ofNat (n : Nat) = v) (k : tP cc own nL ret ini hh rm D tys z l Q kc ks (pc + 1) lv (.long v :: st) S) : tP cc own nL ret ini hh rm D tys z l Q kc ks pc lv st S :=
  fun p e s m args below meth c H locs ls X hH hl => lv_lconst X.1 X.2.1 hd hv (k p e s m args below meth c H locs ls X hH hl)
theorem tt_ldc2 {i : Nat} {v : Int64} (hw : Cond.constantLong own i v ∈ gW) (hd : decode cc pc = .ok (.ldc2_w i, 3)) (k : tP cc own nL ret ini hh rm D tys z l Q kc ks (pc + 3) lv (.long v :: st) S) : tP cc own nL ret ini hh rm D tys z l Q kc ks pc lv st S :=
  fun p e s m args below meth c H locs ls X hH hl => lv_ldc2 X.1 X.2.1 X.2.2.2.1 (X.2.2.2.2.1.1 _ hw args) hd (k p e s m args below meth c H locs ls X hH hl)
theorem tt_null (hd : decode cc pc = .ok (.aconst_null, 1)) (k : tP cc own nL ret ini hh rm D tys z l Q kc ks (pc + 1) lv (.null :: st) S) : tP cc own nL ret ini hh rm D tys z l Q kc ks pc lv st S :=
  fun p e s m args below meth c H locs ls X hH hl => lv_null X.1 X.2.1 hd (k p e s m args below meth c H locs ls X hH hl)
theorem tt_ifnull {off : Int} {t : Nat} {r : Option Nat} (hd : decode cc pc = .ok (.ifnull off, 3)) (ht : (pc : Int) + off = (t : Int)) (kt : r = none → tP cc own nL ret ini hh rm D tys z l Q kc ks t lv st S) (kf : ∀ x, r = some x → tP cc own nL ret ini hh rm D tys z l Q kc ks (pc + 3) lv st S) : tP cc own nL ret ini hh rm D tys z l Q kc ks pc lv (va_rf r :: st) S := by
  intro p e s m args below meth c H locs ls X hH hl
  cases r with
  | none => exact lv_ifnullN X.1 X.2.1 hd ht (kt rfl p e s m args below meth c H locs ls X hH hl)
  | some x => exact lv_ifnull X.1 X.2.1 hd (kf x rfl p e s m args below meth c H locs ls X hH hl)
theorem tt_ifnonnull {off : Int} {t : Nat} {r : Option Nat} (hd : decode cc pc = .ok (.ifnonnull off, 3)) (ht : (pc : Int) + off = (t : Int)) (kt : ∀ x, r = some x → tP cc own nL ret ini hh rm D tys z l Q kc ks t lv st S) (kf : r = none → tP cc own nL ret ini hh rm D tys z l Q kc ks (pc + 3) lv st S) : tP cc own nL ret ini hh rm D tys z l Q kc ks pc lv (va_rf r :: st) S := by
  intro p e s m args below meth c H locs ls X hH hl
  cases r with
  | none => exact lv_ifnonnullN X.1 X.2.1 hd (kf rfl p e s m args below meth c H locs ls X hH hl)
  | some x => exact lv_ifnonnull X.1 X.2.1 hd ht (kt x rfl p e s m args below meth c H locs ls X hH hl)
theorem tt_tableIn {dflt lo hi : Int} {offs : Array Int} {len : Nat} {x : Int32} {off : Int} {t : Nat} (hd : decode cc pc = .ok (.tableswitch dflt lo hi offs, len)) (h1 : ¬ x.toInt < lo) (h2 : ¬ hi < x.toInt) (ho : offs[(x.toInt - lo).toNat]? = some off) (ht : (pc : Int) + off = (t : Int)) (k : tP cc own nL ret ini hh rm D tys z l Q kc ks t lv st S) : tP cc own nL ret ini hh rm D tys z l Q kc ks pc lv (.int x :: st) S :=
  fun p e s m args below meth c H locs ls X hH hl => lv_tableIn X.1 X.2.1 hd h1 h2 ho ht (k p e s m args below meth c H locs ls X hH hl)
theorem tt_tableOut {dflt lo hi : Int} {offs : Array Int} {len : Nat} {x : Int32} {t : Nat} (hd : decode cc pc = .ok (.tableswitch dflt lo hi offs, len)) (h : x.toInt < lo ∨ hi < x.toInt) (ht : (pc : Int) + dflt = (t : Int)) (k : tP cc own nL ret ini hh rm D tys z l Q kc ks t lv st S) : tP cc own nL ret ini hh rm D tys z l Q kc ks pc lv (.int x :: st) S :=
  fun p e s m args below meth c H locs ls X hH hl => lv_tableOut X.1 X.2.1 hd h ht (k p e s m args below meth c H locs ls X hH hl)
end TN
