/-! ===== calls: a callee that returns or throws ===== -/
section TC
variable {p : Program} {l : Launch} {e : Env} {R : Room} {s : State} {m : MethodId} {args : Array Value} {below : List Frame} {meth : Method} {c : Code} {U : State} {Ls : List Loc} {c0 s0 : Nat}
variable {D : va_G} {tys : List (ClassId × FieldType)} {z : tZ} {Q : tO → tS → Prop} {S : tS}
theorem tCw_spec {y : MethodName} {bytes : ByteArray} {nL : Nat} {ret : Option FieldType} {hh : List (Nat × Nat × Nat × Nat)} {a : Array Value} {u : State} {mk : MethodId} (hn : u.methodNamed? y = some mk) (h : (tCw y bytes nL ret hh).before a u = true) : ∃ (methY : Method) (cY : Code), u.vm.method? mk = some methY ∧ methY.code = some cY ∧ cY.maxLocals = nL ∧ parseMethodDescriptor y.desc = some methY.sig := by
  unfold tCw at h
  split at h
  · obtain ⟨methY, cY, h1, h2, -, h4, -, -, -, h8⟩ := Cond.code_spec hn h
    exact ⟨methY, cY, h1, h2, h4, h8⟩
  · obtain ⟨m9, methY, cY, hn9, h1, h2, -, h4, -, -, -, h8⟩ := Cond.codeWith_spec h
    cases hn.symm.trans hn9
    exact ⟨methY, cY, h1, h2, h4, h8⟩
/-- from the invocation of y: it is back with a value, or an exception stands over the caller's frame -/
theorem tBack {y : MethodName} {bytes : ByteArray} {nL : Nat} {ret : Option FieldType} {hh : List (Nat × Nat × Nat × Nat)} {rm : Room} {av : List Value} {g : JFrame} {ig : Instr} {len : Nat} {mk : MethodId}
    (hM : tM l y bytes nL ret hh rm D tys z av S Q) (X : Stand p l e R s m args below meth c U Ls c0 s0) (hg : g.method = m) (hsize : g.locals.size = c.maxLocals) (hdg : decode c.code g.pc = .ok (ig, len)) (hW : 2 * g.monitorRoom + (g.stack.map fun v => v.category).sum ≤ 8) (hn : U.methodNamed? y = some mk)
    (hframes : rm.frames + 1 ≤ R.frames) (hlocals : 8 + (nL + 11) + rm.locals ≤ R.locals) (hcells : c0 + rm.cells ≤ R.cells) (hslots : s0 + rm.slots ≤ R.slots)
    (hcw : (tCw y bytes nL ret hh).before av.toArray U = true) (hini : (Cond.initialized y.cls).before av.toArray U = true) (hU : tU D tys z S U) :
    ∃ (U' : State) (L : List Loc), Stand p l e R s m args below meth c U' (Ls ++ L) (c0 + rm.cells) (s0 + rm.slots) ∧ (∀ q ∈ L, tA z q.base) ∧ U.heap.size ≤ U'.heap.size ∧ (∀ q : Nat, q < U.heap.size → ¬ tA z q → U'.heap[q]? = U.heap[q]?) ∧
      ∃ S' : tS, tU D tys z S' U' ∧
        ((∃ v, Q (.inl v) S' ∧ Steps p.tables e below (doInvoke e (U.setTop g) [] mk av.toArray).1 (U'.setTop { g with pc := g.pc + len, stack := v.toList ++ g.stack })) ∨
         (∃ (a k : Nat) (C : String) (cell : Cell), Q (.inr k) S' ∧ excs[k]? = some C ∧ U'.heap[a]? = some cell ∧ cell.vm.isStatics = false ∧ U'.vm.findClass C = some cell.cls ∧ Steps p.tables e below (doInvoke e (U.setTop g) [] mk av.toArray).1 ((U'.setTop g).pushFrame (.throwing a)))) := by
  obtain ⟨methY, cY, hmY, hcY, hlY, -⟩ := tCw_spec hn hcw
  obtain ⟨kY, hkY, -⟩ := className_of_methodNamed hn
  have hinitY : kY.init = .initialized := Cond.initialized_spec (findClass_of_methodNamed hn) hkY hini
  have h : At U g.method c below := by rw [hg]; exact X.here
  have happ : (headSpec [tCw y bytes nL ret hh] rm).appliesLoose y e.platform (U.calling g mk av.toArray) = true :=
    Spec.appliesLoose_calling (g := g) h hdg hn hkY hinitY
      (X.room_calling (g := g) (R' := rm) hsize hmY hcY hframes (by rw [hlY]; omega) hcells hslots) (atoms_intro (ws := [tCw y bytes nL ret hh]) fun w hw => by rw [List.mem_singleton.mp hw]; exact hcw)
  obtain ⟨mid, hmid⟩ := h.above
  have hfr : (U.setTop g).frames = (.java g :: mid) ++ below := by rw [State.frames_setTop' g h.top, hmid]; rfl
  have hPc : va_Pc av (tU D tys z S) av.toArray (U.calling g mk av.toArray) := tU.calling av.toArray U g mk ⟨rfl, hU⟩
  obtain ⟨o, s₂, hsteps, -, hend, hq⟩ := Steps.callFree hM p X.admits X.cas X.clock (acts := []) hfr happ hPc trivial
  have hq' : tG D tys z Q rm (U.calling g mk av.toArray) o s₂ := hq
  rw [State.frames_setTop' g h.top] at hend
  obtain ⟨⟨⟨S', hU', ho⟩, hF1, hF2⟩, L, ⟨hW₂, e2, q2, q3, q4, q5, q6⟩, hL⟩ := hq'
  have e3 : s₂ = ({ (U.calling g mk av.toArray).setFrames s₂.frames with heap := s₂.heap, slotsUsed := s₂.slotsUsed } : State).setVm s₂.vm := by
    have : s₂ = ({ s₂ with vm := (U.calling g mk av.toArray).vm } : State).setVm s₂.vm := rfl
    rw [e2] at this
    exact this
  have hW' : U.WarmedH s₂.vm := hW₂
  obtain ⟨g₀, hg0⟩ := Option.isSome_iff_exists.mp h.top
  obtain ⟨r, hr⟩ := State.topJava?_eq_some.mp hg0
  have hsame : U.sameButNew ({ U with heap := s₂.heap, slotsUsed := s₂.slotsUsed } : State) L rm.cells rm.slots := by
    refine ⟨?_, q2, q3, q4, q5, q6⟩
    obtain ⟨t, ht, -⟩ := State.frames_cons hr
    show ({ U with heap := s₂.heap, slotsUsed := s₂.slotsUsed } : State) = { U.setFrames U.frames with heap := s₂.heap, slotsUsed := s₂.slotsUsed }
    rw [State.setFrames_self ht]
  subst hg
  have hr' : (({ U with heap := s₂.heap, slotsUsed := s₂.slotsUsed } : State).setVm s₂.vm).frames = .java g₀ :: r := hr
  refine ⟨(({ U with heap := s₂.heap, slotsUsed := s₂.slotsUsed } : State).setVm s₂.vm), L,
    ⟨X.admits, X.cas, X.clock, X.frames, X.room, X.hears, X.method, X.code, (X.here.setHeapUsed s₂.heap s₂.slotsUsed).setVm hW'.alike, X.tail, State.WarmedH.trans X.warmed hW', X.limits, X.bytes, X.same.trans (hsame.setVm s.vm)⟩, hL, hF1, hF2, S', ?_, ?_⟩
  · obtain ⟨u1, u2, u3, u4, u5⟩ := hU'
    exact ⟨u1.moved (State.WarmedH.refl s₂) (fun _ _ => rfl), va_K.moved (u := s₂) (Vm.Alike.refl s₂.vm) u2, u3, u4, u5⟩
  · rcases ho with ⟨v, rfl, hv⟩ | ⟨a, k, C, cell, rfl, hv, hC, hcl, hcv, hcf⟩
    · refine Or.inl ⟨v, hv, ?_⟩
      obtain ⟨c₂, i₂, len₂, hc₂, hd₂, hf₂⟩ := hend
      have hcc : c₂ = c := by
        have h1 : s₂.code? g.method = U.code? g.method := by
          rw [State.code?_eq, State.code?_eq, hW'.alike.method?]
        exact Option.some.inj (hc₂.symm.trans (h1.trans h.code))
      subst hcc
      have hlen : len₂ = len := by rw [hdg] at hd₂; cases hd₂; rfl
      subst hlen
      have hs₂ : s₂ = (({ U with heap := s₂.heap, slotsUsed := s₂.slotsUsed } : State).setVm s₂.vm).setTop { g with pc := g.pc + len₂, stack := v.toList ++ g.stack } := by
        refine e3.trans ?_
        rw [hf₂, State.calling_eq h.top, State.setFrames_setFrames, State.setTop_of_frames _ hr', hr]
        rfl
      rw [← hs₂]
      exact hsteps
    · refine Or.inr ⟨a, k, C, cell, hv, hC, hcl, hcv, hcf, ?_⟩
      have hend' : s₂.frames = .throwing a :: .java g :: U.frames.tail := hend
      have hs₂ : s₂ = ((({ U with heap := s₂.heap, slotsUsed := s₂.slotsUsed } : State).setVm s₂.vm).setTop g).pushFrame (.throwing a) := by
        refine e3.trans ?_
        rw [hend', State.calling_eq h.top, State.setFrames_setFrames, State.setTop_of_frames _ hr', hr]
        unfold State.pushFrame
        rw [State.frames_setFrames _ (by exact State.cur_lt_of_frames hr'), State.setFrames_setFrames]
        rfl
      rw [← hs₂]
      exact hsteps
end TC
