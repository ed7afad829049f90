/-! ===== a throw out of a method: the method's start moved up to here, so that nothing of what it did is lost ===== -/
section TT
variable {p : Program} {l : Launch} {e : Env} {R : Room} {s : State} {m : MethodId} {args : Array Value} {below : List Frame} {meth : Method} {c : Code} {T : State} {locs : List Loc} {cells slots : Nat}
theorem tRebase (X : Stand p l e R s m args below meth c T locs cells slots) (hc : cells ≤ R.cells) (hs : slots ≤ R.slots) : Stand p l e { frames := R.frames, cells := R.cells - cells, slots := R.slots - slots, locals := R.locals } (T.setFrames (.invoking m args :: below)) m args below meth c T [] 0 0 := by
  obtain ⟨g₀, hfr⟩ := X.frames_eq
  have hcur : T.cur < T.threads.size := State.cur_lt_of_frames hfr
  have hf : (T.setFrames (.invoking m args :: below)).frames = .invoking m args :: below := State.frames_setFrames _ hcur
  have hm : (T.setFrames (.invoking m args :: below)).vm.method? m = some meth := X.method'
  obtain ⟨t, ht⟩ : ∃ t, T.threads[T.cur]? = some t := ⟨_, Array.getElem?_eq_some_iff.mpr ⟨hcur, rfl⟩⟩
  refine ⟨X.admits, X.cas, X.clock, hf, ?_, ?_, hm, X.code, X.here, X.tail, State.WarmedH.refl _, ?_, ?_, ?_⟩
  · have h := X.room
    have hb := X.book
    have hz := X.heapSize
    have hu := X.used
    simp only [State.hasRoom, Bool.and_eq_true, decide_eq_true_eq] at h ⊢
    obtain ⟨⟨⟨⟨r1, r2, r3, r4, r5, r6⟩, r7⟩, r8⟩, r9⟩ := h
    rw [State.localsInUse_invoking X.frames X.method X.code] at r1 r4 r5
    rw [State.localsInUse_invoking hf hm X.code, hf, State.stackLimits_setFrames, State.stackBytes_setFrames, X.limits, X.bytes]
    rw [X.frames] at r2 r3
    exact ⟨⟨⟨⟨r1, r2, r3, r4, r5, r6⟩, by show T.heap.size + (R.cells - cells) ≤ _; omega⟩, by show T.slotsUsed + (R.slots - slots) ≤ _; omega⟩, hb⟩
  · have h := X.hears
    have hal := X.warmed.alike
    unfold State.hears at h ⊢
    cases below with
    | nil => rw [hm]; rw [X.method] at h; exact h
    | cons f r =>
      cases f with
      | java g => 
        have : (T.setFrames (.invoking m args :: .java g :: r)).code? g.method = s.code? g.method := by
          rw [State.code?_eq, State.code?_eq]
          show (T.vm.method? g.method).bind _ = _
          rw [hal.method?]
        simp only at h ⊢
        rw [this]; exact h
      | native _ => rfl
      | proc _ => rfl
      | _ => simp only at h ⊢; rw [hm]; rw [X.method] at h; exact h
  · rw [State.stackLimits_setFrames]
  · rw [State.stackBytes_setFrames]
  · have h := (State.sameButNew.refl (T.setFrames (.invoking m args :: below)) (x := { t with frames := .invoking m args :: below }) (by simp [State.setFrames, Array.getElem?_modify, ht])).setFrames T.frames (by simpa [State.setFrames] using hcur)
    rw [State.setFrames_setFrames, State.setFrames_self ht] at h
    exact h
end TT
