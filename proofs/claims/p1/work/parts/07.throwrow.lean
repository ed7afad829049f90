/-! ===== rows: a throw ===== -/
section TV
variable {p : Program} {l : Launch} {e : Env} {R : Room} {s : State} {m : MethodId} {args : Array Value} {below : List Frame} {meth : Method} {c : Code} {T : State} {locs : List Loc} {cells slots : Nat}
/-- ldc_w of a String constant that is resolved -/
theorem xLdcW (X : Stand p l e R s m args below meth c T locs cells slots) (hexec : p.tables.exec = Jvm.exec) {own text : String} {index : Nat} {a : Addr} (hown : s.vm.findClass own = some m.cls)
    (hconst : (Cond.stringRef own index text).before args s = true) (hev : (Term.string own index).eval args s none [] s = some (.ref a)) {g : JFrame} (hg : g.method = m) (hdg : decode c.code g.pc = .ok (.ldc_w index, 3)) :
    ∀ target, Steps p.tables e below (T.setTop { g with pc := g.pc + 3, stack := .ref a :: g.stack }) target → Steps p.tables e below (T.setTop g) target := by
  obtain ⟨k, cf, i, a', hk, hcf, hcp, -, hr, hev'⟩ := Cond.stringRef_spec hown hconst
  cases hev.symm.trans hev'
  obtain ⟨k', hk', he⟩ := X.warmed.alike.2.2 _ _ hk
  have hr' : k'.resolved[index]? = some (some (.string a)) := by
    rcases X.warmed.entry hk hk' index with h | ⟨h, -⟩
    · rw [h]; exact hr
    · rw [hr] at h; cases h
  intro target hrest
  subst hg
  jvm_step X.here [hexec, hdg, ldc_w.sem, ldc.wp_string (e := e) (s := T) (f := g) X.here.top hk' (by rw [he]; exact hcf) hcp hr']
  exact hrest
/-- ldc or ldc_w of a String constant -/
def xLdc (cc : ByteArray) (pc i n : Nat) : Prop := (decode cc pc = .ok (.ldc i, 2) ∧ n = 2) ∨ (decode cc pc = .ok (.ldc_w i, 3) ∧ n = 3)
end TV
section TVR
variable {cc : ByteArray} {own : String} {nL : Nat} {ret : Option FieldType} {ini : Bool} {hh : List (Nat × Nat × Nat × Nat)} {rm : Room} {D : va_G} {tys : List (ClassId × FieldType)} {z : tZ} {l : Launch} {Q : tO → tS → Prop} {kc ks : Nat} {pc : Nat} {lv : List (Nat × Value)} {st : List Value} {S : tS}
set_option maxHeartbeats 1000000 in
theorem tt_throw {k ic is ix i1 n : Nat} {b1 : ByteArray} {C text : String} (hl0 : l.stackTraces = false) (hC : excs[k]? = some C) (hfit : Bundle.fit C = true) (d0 : decode b1 0 = .ok (.aload_n 0, 1)) (d1 : decode b1 1 = .ok (.aload_n 1, 1)) (d2 : decode b1 2 = .ok (.invokespecial i1, 3)) (d5 : decode b1 5 = .ok (.return_, 1))
    (hA : ∀ w ∈ xAtoms own ix C i1 b1, w ∈ gW ∨ w ∈ eW) (w1 : Cond.classLink own ic C ∈ gW) (w2 : Cond.instantiable C 6 ∈ gW) (w3 : Cond.initialized C ∈ gW) (w4 : Cond.stringRef own is text ∈ eW)
    (hd0 : decode cc pc = .ok (.new ic, 3)) (hd1 : decode cc (pc + 3) = .ok (.dup, 1)) (hd2 : xLdc cc (pc + 4) is n) (hd3 : decode cc (pc + 4 + n) = .ok (.invokespecial ix, 3)) (hd4 : decode cc (pc + 4 + n + 3) = .ok (.athrow, 1))
    (hout : ∀ x ∈ hh, ¬ (x.1 ≤ pc + 4 + n + 3 ∧ pc + 4 + n + 3 < x.2.1)) (hR : 5 < rm.frames ∧ (st.map fun v => v.category).sum + 82 ≤ rm.locals ∧ kc + 1 ≤ rm.cells ∧ ks + 6 ≤ rm.slots) (hq : Q (.inr k) S) : tP cc own nL ret ini hh rm D tys z l Q kc ks pc lv st S := by
  intro p e s m args below meth c H locs ls X hH hl T hT Y
  subst hT
  have hkc : kc ≤ rm.cells := by omega
  have hks : ks ≤ rm.slots := by omega
  have X' := tRebase Y hkc hks
  generalize hs' : T.setFrames (.invoking m args :: below) = s' at X'
  have hvm : s'.vm = T.vm := by rw [← hs']; rfl
  have hhp : s'.heap = T.heap := by rw [← hs']; rfl
  have hWs : s.WarmedH s'.vm := by rw [hvm]; exact Y.warmed
  have hlow : ∀ q : Nat, q < z.1 → s'.heap[q]? = s.heap[q]? := by rw [hhp]; exact tS_low hH.2.2.1 hH.2.2.2
  have hTT : tT z s' := X.2.2.2.2.1.moved hWs hlow
  have hg : ∀ w ∈ gW, w.before args s' = true := fun w hw => hTT.1 w hw args
  have hx : ∀ w ∈ eW, w.before args s' = true := fun w hw => hTT.2.1 s' (State.WarmedH.refl s') (fun _ _ => rfl) w hw args
  have hown : s'.vm.findClass own = some m.cls := by rw [hWs.alike.findClass]; exact X.2.2.2.1
  have htr : e.platform.stackTraces = false := by rw [Y.admits.platform]; exact hl0
  have hbc : c.code = cc := X.2.1
  have hml : c.maxLocals = nL := X.2.2.1
  obtain ⟨vm₁, cX, kX, hfX, hkX, -, hsz6, X₁, st1⟩ := X'.newCold X.1 (own := own) (C := C) (index := ic) (n := 6) hown (hg _ w1) (hg _ w2) (hg _ w3) (g := F0 m pc ls st) rfl (by rw [hbc]; exact hd0) (by show 0 + 1 ≤ rm.cells - kc; omega) (by show 0 + 6 ≤ rm.slots - ks; omega)
  generalize hT2 : (T.setVm vm₁).pushCell { cls := cX, slots := kX.instanceTypes.map defaultValue, vm := .none } = T2 at X₁ st1
  have hcellA : T2.heap[T.heap.size]? = some (freshCell cX kX) := by rw [← hT2]; exact State.heap_pushCell_size _ _
  obtain ⟨-, -, -, sa, -, -, -, -, -, hev⟩ := Cond.stringRef_spec hown (hx _ w4)
  have ho : ∀ x ∈ c.exceptionTable.toList, covers x (pc + 4 + n + 3) = false := by
    intro x hx
    have h1 := hout (x.startPc, x.endPc, x.handlerPc, x.catchType) (by rw [← X.2.2.2.2.2.2.2.2.2]; exact List.mem_map.mpr ⟨x, hx, rfl⟩)
    simp only [covers]
    simp only [not_and, Nat.not_lt] at h1
    simp only [Bool.and_eq_false_iff, decide_eq_false_iff_not]
    by_cases h2 : x.startPc ≤ pc + 4 + n + 3
    · exact Or.inr (by have := h1 h2; omega)
    · exact Or.inl h2
  obtain ⟨U, hsteps, hrun, hend, hW, hsame, ce, hce, hcc, hcv⟩ := xThrow X₁ X.1 htr (own := own) (cls := C) (ic := ix) (i1 := i1) (b1 := b1) hown hfit d0 d1 d2 d5
    (fun w hw => (hA w hw).elim (hg w) (hx w)) (fun _ h => by cases h) hfX hkX hcellA (by rw [hhp]; exact Nat.le_refl _) (msg := .ref sa) rfl
    (g := F0 m (pc + 4 + n) ls (.ref sa :: .ref T.heap.size :: .ref T.heap.size :: st)) rfl (hl.1.trans hml.symm) rfl rfl (rest := st) rfl
    (by rw [hbc]; exact hd3) (by rw [hbc]; exact hd4) ho hR.1 (by have h9 := hR.2.1; rw [List.map_cons, List.sum_cons]; show 2 * 0 + (1 + (st.map fun v => v.category).sum) + 81 ≤ rm.locals; omega) X.2.2.2.2.2.2.2.1
  refine ⟨U, ?_, .threw T.heap.size, hrun, hend, ?_⟩
  · refine st1 _ ?_
    show Steps p.tables e below (T2.setTop (F0 m (pc + 3) ls (.ref T.heap.size :: st))) _
    jvm_step X₁.here [X₁.here.top, X.1, hbc, hd1, Value.category]
    rcases hd2 with ⟨hd, hn⟩ | ⟨hd, hn⟩
    · subst hn
      exact X₁.ldcString X.1 (own := own) (text := text) (index := is) (a := sa) hown (hx _ w4) hev (g := F0 m (pc + 4) ls (.ref T.heap.size :: .ref T.heap.size :: st)) rfl (by rw [hbc]; exact hd) _ hsteps
    · subst hn
      exact xLdcW X₁ X.1 (own := own) (text := text) (index := is) (a := sa) hown (hx _ w4) hev (g := F0 m (pc + 4) ls (.ref T.heap.size :: .ref T.heap.size :: st)) rfl (by rw [hbc]; exact hd) _ hsteps
  · have hWU : s.WarmedH U.vm := hWs.trans hW
    have hold : ∀ q : Nat, q < T.heap.size → U.heap[q]? = T.heap[q]? := by
      intro q hq
      obtain ⟨cl, hcl⟩ : ∃ cl, T.heap[q]? = some cl := ⟨_, Array.getElem?_eq_some_iff.mpr ⟨hq, rfl⟩⟩
      have h1 := hsame.old_cell (a := q) (c := cl) (by rw [hhp]; exact hcl)
      rw [hcl]
      exact h1
    have hsz : T.heap.size ≤ U.heap.size := by
      have := hsame.2.1
      rw [hhp] at this
      exact this
    have hS' : va_S (tA z) s.heap U.heap locs := ⟨Nat.le_trans hH.2.2.1.1 hsz, fun q h1 h2 => (hold q (Nat.lt_of_lt_of_le h1 hH.2.2.1.1)).trans (hH.2.2.1.2.1 q h1 h2), hH.2.2.1.2.2⟩
    have hP' : va_P D cls (tW S) U.heap := fun k q hk => (hH.1 k q hk).kept (hold q.1 (hH.1 k q hk).lt)
    refine ⟨⟨⟨S, ⟨X.2.2.2.2.1.moved hWU (tS_low hS' hH.2.2.2), va_K.moved hWU.alike X.2.2.2.2.2.1, hP', hH.2.1, Nat.le_trans hH.2.2.2 hS'.1⟩, Or.inr ⟨T.heap.size, k, C, ce, rfl, hq, hC, hce, by rw [hcv]; rfl, by rw [hW.alike.findClass]; exact hcc⟩⟩, hS'.F rfl⟩, locs ++ [], ⟨hWU, ?_⟩, fun q h => hH.2.2.1.2.2 q (by simpa using h)⟩
    have h2 : T.sameButNew ({ U with vm := T.vm } : State) [] 1 6 := by
      obtain ⟨e1, e2⟩ := hsame
      rw [hhp] at e2
      refine ⟨?_, by rw [← hs'] at e2; exact e2⟩
      rw [← hs'] at e1
      rw [State.setFrames_setFrames] at e1
      exact e1
    have h3 := Y.same.trans (h2.setVm s.vm)
    exact h3.mono (by omega) (by omega)
end TVR
