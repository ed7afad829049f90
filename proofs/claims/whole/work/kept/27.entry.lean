/-! ===== the words of eW, at the law's entry: they hold wherever the tables are warmer and the old cells are as they were ===== -/
section EN
variable {s V : State} {args a : Array Value}
theorem en_cast {A B : String} (hW : s.WarmedH V.vm) (h : (Cond.castable A B).before args s = true) : (Cond.castable A B).before a V = true := by
  have h1 : (Cond.castable A B).before args (s.setVm V.vm) = true := Cond.before_shiftedFace (State.Shifted.of_warmed hW) _ rfl h
  exact h1
theorem en_decl {x : MethodName} (hW : s.WarmedH V.vm) (h : (Cond.declares x).before args s = true) : (Cond.declares x).before a V = true := by
  have h1 : (Cond.declares x).before args (s.setVm V.vm) = true := Cond.before_shiftedFace (State.Shifted.of_warmed hW) _ rfl h
  exact h1
theorem en_ncast {A B : String} (hW : s.WarmedH V.vm) (h : (Cond.not (Cond.castable A B)).before args s = true) : (Cond.not (Cond.castable A B)).before a V = true := by
  simp only [Cond.before, Cond.holds, Cond.value, hW.alike.findClass, hW.alike.assignable] at h ⊢
  exact h
theorem en_over {C : String} (hW : s.WarmedH V.vm) (h : (Cond.arrayOver (.object C)).before args s = true) : (Cond.arrayOver (.object C)).before a V = true := (va_AO.moved hW.alike (va_AO.of h)).use
end EN
section EN2
variable {s V : State} {args a : Array Value}
theorem en_str {c t : String} {i : Nat} (hW : s.WarmedH V.vm) (h : (Cond.stringRef c i t).before args s = true) : (Cond.stringRef c i t).before a V = true := by
  have h1 : (Cond.stringRef c i t).before args (s.setVm V.vm) = true := Cond.stringRef_warmed hW h
  exact h1
theorem en_lays {C n d : String} (hW : s.WarmedH V.vm) (hH : ∀ q : Nat, q < s.heap.size → V.heap[q]? = s.heap[q]?) (h : (Cond.laysStatic C n d).before args s = true) : (Cond.laysStatic C n d).before a V = true := by
  have h1 : (Cond.laysStatic C n d).before args (s.setVm V.vm) = true := Cond.laysStatic_setVm hW.alike h
  have h2 := h1
  simp only [Cond.before, Cond.holds, Cond.value] at h2 ⊢
  have e1 : (s.setVm V.vm).vm = V.vm := rfl
  have e2 : (s.setVm V.vm).fieldFound? C n d = V.fieldFound? C n d := rfl
  have e3 : (s.setVm V.vm).heap = s.heap := rfl
  rw [e1, e2, e3] at h2
  cases hc : V.vm.findClass C with
  | none => simp [hc] at h2
  | some c =>
    cases hf : V.fieldFound? C n d with
    | none => simp [hc, hf] at h2
    | some x =>
      obtain ⟨c', k, fi, f⟩ := x
      cases hk : k.statics with
      | none => simp [hc, hf, hk] at h2
      | some q =>
        cases hq : s.heap[q]? with
        | none => simp [hc, hf, hk, hq] at h2
        | some cell =>
          have hlt : q < s.heap.size := (Array.getElem?_eq_some_iff.mp hq).1
          have hqV : V.heap[q]? = some cell := (hH q hlt).trans hq
          simp only [hc, hf, hk, Option.bind_some, hq, hqV] at h2 ⊢
          exact h2
theorem en_ref {C n d : String} (hW : s.WarmedH V.vm) (hH : ∀ q : Nat, q < s.heap.size → V.heap[q]? = s.heap[q]?) (hl : (Cond.laysStatic C n d).before args s = true) (hi : (Cond.initialized C).before args s = true) (h : (Cond.isRef (.static C n d)).before args s = true) : (Cond.isRef (.static C n d)).before a V = true := by
  have h1 := va_Zqof (A := fun q => s.heap.size ≤ q) hl hi h (fun q h => Nat.not_le.mpr h)
  have h2 := (va_Zq.moved hW.alike h1).kept (H1 := V.heap) (fun q hq _ => hH q hq)
  rcases h2 with ⟨cf, kf, fi, f, q, cell, g1, g2, g3, g4, g5, g6, g7, -⟩ | ⟨t, cf, kf, fi, f, q, cell, g1, g2, g3, g4, g5, g6, g7, -⟩
  · simp [Cond.before, Cond.holds, Cond.value, Term.eval, State.fieldNamed?, g1, g2, g4, g5, g6, g7]
  · simp [Cond.before, Cond.holds, Cond.value, Term.eval, State.fieldNamed?, g1, g2, g4, g5, g6, g7]
end EN2
