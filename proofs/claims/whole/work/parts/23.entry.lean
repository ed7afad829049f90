/-! ===== the law's entry; written by wip/gen/entry.py ===== -/
section EN
variable {s V : State} {args a : Array Value}
theorem en_cast {A B : String} (hW : s.WarmedH V.vm) (h : (Cond.castable A B).before args s = true) : (Cond.castable A B).before a V = true := by
  have h1 : (Cond.castable A B).before args (s.setVm V.vm) = true := Cond.before_shiftedFace (State.Shifted.of_warmed hW) _ rfl h
  exact h1
theorem en_decl {x : MethodName} (hW : s.WarmedH V.vm) (h : (Cond.declares x).before args s = true) : (Cond.declares x).before a V = true := by
  have h1 : (Cond.declares x).before args (s.setVm V.vm) = true := Cond.before_shiftedFace (State.Shifted.of_warmed hW) _ rfl h
  exact h1
theorem en_ncast {A B : String} (hW : s.WarmedH V.vm) (h : (Cond.not (Cond.castable A B)).before args s = true) : (Cond.not (Cond.castable A B)).before a V = true := by
  simp only [Cond.before, Cond.holds, Cond.value, hW.alike.findClass, hW.alike.assignable] at h ⊢
  exact h
theorem en_over {C : String} (hW : s.WarmedH V.vm) (h : (Cond.arrayOver (.object C)).before args s = true) : (Cond.arrayOver (.object C)).before a V = true := (va_AO.moved hW.alike (va_AO.of h)).use
end EN
section EN2
variable {s V : State} {args a : Array Value}
theorem en_str {c t : String} {i : Nat} (hW : s.WarmedH V.vm) (h : (Cond.stringRef c i t).before args s = true) : (Cond.stringRef c i t).before a V = true := by
  have h1 : (Cond.stringRef c i t).before args (s.setVm V.vm) = true := Cond.stringRef_warmed hW h
  exact h1
theorem en_lays {C n d : String} (hW : s.WarmedH V.vm) (hH : ∀ q : Nat, q < s.heap.size → V.heap[q]? = s.heap[q]?) (h : (Cond.laysStatic C n d).before args s = true) : (Cond.laysStatic C n d).before a V = true := by
  have h1 : (Cond.laysStatic C n d).before args (s.setVm V.vm) = true := Cond.laysStatic_setVm hW.alike h
  have h2 := h1
  simp only [Cond.before, Cond.holds, Cond.value] at h2 ⊢
  have e1 : (s.setVm V.vm).vm = V.vm := rfl
  have e2 : (s.setVm V.vm).fieldFound? C n d = V.fieldFound? C n d := rfl
  have e3 : (s.setVm V.vm).heap = s.heap := rfl
  rw [e1, e2, e3] at h2
  cases hc : V.vm.findClass C with
  | none => simp [hc] at h2
  | some c =>
    cases hf : V.fieldFound? C n d with
    | none => simp [hc, hf] at h2
    | some x =>
      obtain ⟨c', k, fi, f⟩ := x
      cases hk : k.statics with
      | none => simp [hc, hf, hk] at h2
      | some q =>
        cases hq : s.heap[q]? with
        | none => simp [hc, hf, hk, hq] at h2
        | some cell =>
          have hlt : q < s.heap.size := (Array.getElem?_eq_some_iff.mp hq).1
          have hqV : V.heap[q]? = some cell := (hH q hlt).trans hq
          simp only [hc, hf, hk, Option.bind_some, hq, hqV] at h2 ⊢
          exact h2
theorem en_ref {C n d : String} (hW : s.WarmedH V.vm) (hH : ∀ q : Nat, q < s.heap.size → V.heap[q]? = s.heap[q]?) (hl : (Cond.laysStatic C n d).before args s = true) (hi : (Cond.initialized C).before args s = true) (h : (Cond.isRef (.static C n d)).before args s = true) : (Cond.isRef (.static C n d)).before a V = true := by
  have h1 := va_Zqof (A := fun q => s.heap.size ≤ q) hl hi h (fun q h => Nat.not_le.mpr h)
  have h2 := (va_Zq.moved hW.alike h1).kept (H1 := V.heap) (fun q hq _ => hH q hq)
  rcases h2 with ⟨cf, kf, fi, f, q, cell, g1, g2, g3, g4, g5, g6, g7, -⟩ | ⟨t, cf, kf, fi, f, q, cell, g1, g2, g3, g4, g5, g6, g7, -⟩
  · simp [Cond.before, Cond.holds, Cond.value, Term.eval, State.fieldNamed?, g1, g2, g4, g5, g6, g7]
  · simp [Cond.before, Cond.holds, Cond.value, Term.eval, State.fieldNamed?, g1, g2, g4, g5, g6, g7]
end EN2
theorem tW_1 {w : Cond} (i : Nat) (h : tables_1_1[i]? = some w) : w ∈ lw_tbl := List.mem_append_right _ (List.mem_append_left _ (List.mem_of_getElem? h))
theorem tW_2 {w : Cond} (i : Nat) (h : tables_1_2[i]? = some w) : w ∈ lw_tbl := List.mem_append_right _ (List.mem_append_right _ (List.mem_append_left _ (List.mem_of_getElem? h)))
theorem tW_3 {w : Cond} (i : Nat) (h : tables_1_3[i]? = some w) : w ∈ lw_tbl := List.mem_append_right _ (List.mem_append_right _ (List.mem_append_right _ (List.mem_append_left _ (List.mem_of_getElem? h))))
theorem tW_4 {w : Cond} (i : Nat) (h : tables_1_4[i]? = some w) : w ∈ lw_tbl := List.mem_append_right _ (List.mem_append_right _ (List.mem_append_right _ (List.mem_append_right _ (List.mem_append_left _ (List.mem_of_getElem? h)))))
theorem tW_5 {w : Cond} (i : Nat) (h : tables_1_5[i]? = some w) : w ∈ lw_tbl := List.mem_append_right _ (List.mem_append_right _ (List.mem_append_right _ (List.mem_append_right _ (List.mem_append_right _ (List.mem_append_left _ (List.mem_of_getElem? h))))))
theorem tW_6 {w : Cond} (i : Nat) (h : tables_1_6[i]? = some w) : w ∈ lw_tbl := List.mem_append_right _ (List.mem_append_right _ (List.mem_append_right _ (List.mem_append_right _ (List.mem_append_right _ (List.mem_append_right _ (List.mem_append_left _ (List.mem_of_getElem? h)))))))
theorem tW_7 {w : Cond} (i : Nat) (h : tables_1_7[i]? = some w) : w ∈ lw_tbl := List.mem_append_right _ (List.mem_append_right _ (List.mem_append_right _ (List.mem_append_right _ (List.mem_append_right _ (List.mem_append_right _ (List.mem_append_right _ (List.mem_append_left _ (List.mem_of_getElem? h))))))))
theorem tW_8 {w : Cond} (i : Nat) (h : tables_1_8[i]? = some w) : w ∈ lw_tbl := List.mem_append_right _ (List.mem_append_right _ (List.mem_append_right _ (List.mem_append_right _ (List.mem_append_right _ (List.mem_append_right _ (List.mem_append_right _ (List.mem_append_right _ (List.mem_append_left _ (List.mem_of_getElem? h)))))))))
theorem tW_9 {w : Cond} (i : Nat) (h : tables_1_9[i]? = some w) : w ∈ lw_tbl := List.mem_append_right _ (List.mem_append_right _ (List.mem_append_right _ (List.mem_append_right _ (List.mem_append_right _ (List.mem_append_right _ (List.mem_append_right _ (List.mem_append_right _ (List.mem_append_right _ (List.mem_append_left _ (List.mem_of_getElem? h))))))))))
theorem tW_10 {w : Cond} (i : Nat) (h : tables_1_10[i]? = some w) : w ∈ lw_tbl := List.mem_append_right _ (List.mem_append_right _ (List.mem_append_right _ (List.mem_append_right _ (List.mem_append_right _ (List.mem_append_right _ (List.mem_append_right _ (List.mem_append_right _ (List.mem_append_right _ (List.mem_append_right _ (List.mem_append_left _ (List.mem_of_getElem? h)))))))))))
theorem tW_11 {w : Cond} (i : Nat) (h : tables_1_11[i]? = some w) : w ∈ lw_tbl := List.mem_append_right _ (List.mem_append_right _ (List.mem_append_right _ (List.mem_append_right _ (List.mem_append_right _ (List.mem_append_right _ (List.mem_append_right _ (List.mem_append_right _ (List.mem_append_right _ (List.mem_append_right _ (List.mem_append_right _ (List.mem_of_getElem? h)))))))))))
def eHold (s : State) (w : Cond) : Prop := ∀ (V : State), s.WarmedH V.vm → (∀ q : Nat, q < s.heap.size → V.heap[q]? = s.heap[q]?) → ∀ a : Array Value, w.before a V = true
theorem eW_hold {s : State} {args : Array Value} (ht : ∀ w ∈ lw_tbl, w.before args s = true) (hn : ∀ w ∈ Jvm.Free.XT.flat (Jvm.Cond.and given_1 narrow_1), w.before args s = true) : allP (eHold s) eW :=
  ⟨(fun V hW hH a => en_ref hW hH (ht _ (tW_3 109 rfl)) (ht _ (tW_1 16 rfl)) (hn _ (by decide +kernel))),
  (fun V hW hH a => en_ref hW hH (ht _ (tW_3 111 rfl)) (ht _ (tW_1 16 rfl)) (hn _ (by decide +kernel))),
  (fun V hW hH a => en_over hW (ht _ (tW_1 70 rfl))),
  (fun V hW hH a => en_over hW (ht _ (tW_2 24 rfl))),
  (fun V hW hH a => en_over hW (ht _ (tW_2 137 rfl))),
  (fun V hW hH a => en_cast hW (ht _ (tW_3 84 rfl))),
  (fun V hW hH a => en_decl hW (ht _ (tW_3 85 rfl))),
  (fun V hW hH a => en_decl hW (ht _ (tW_3 86 rfl))),
  (fun V hW hH a => en_decl hW (ht _ (tW_3 87 rfl))),
  (fun V hW hH a => en_decl hW (ht _ (tW_3 88 rfl))),
  (fun V hW hH a => en_decl hW (ht _ (tW_3 89 rfl))),
  (fun V hW hH a => en_decl hW (ht _ (tW_3 90 rfl))),
  (fun V hW hH a => en_lays hW hH (ht _ (tW_3 109 rfl))),
  (fun V hW hH a => en_lays hW hH (ht _ (tW_3 111 rfl))),
  (fun V hW hH a => en_str hW (ht _ (tW_3 126 rfl))),
  (fun V hW hH a => en_cast hW (ht _ (tW_3 158 rfl))),
  (fun V hW hH a => en_str hW (ht _ (tW_3 165 rfl))),
  (fun V hW hH a => en_cast hW (ht _ (tW_3 194 rfl))),
  (fun V hW hH a => en_str hW (ht _ (tW_3 201 rfl))),
  (fun V hW hH a => en_str hW (ht _ (tW_3 227 rfl))),
  (fun V hW hH a => en_cast hW (ht _ (tW_4 26 rfl))),
  (fun V hW hH a => en_str hW (ht _ (tW_4 33 rfl))),
  (fun V hW hH a => en_cast hW (ht _ (tW_4 86 rfl))),
  (fun V hW hH a => en_str hW (ht _ (tW_4 93 rfl))),
  (fun V hW hH a => en_str hW (ht _ (tW_5 27 rfl))),
  (fun V hW hH a => en_str hW (ht _ (tW_5 52 rfl))),
  (fun V hW hH a => en_str hW (ht _ (tW_5 114 rfl))),
  (fun V hW hH a => en_lays hW hH (ht _ (tW_5 142 rfl))),
  (fun V hW hH a => en_cast hW (ht _ (tW_5 200 rfl))),
  (fun V hW hH a => en_lays hW hH (ht _ (tW_5 222 rfl))),
  (fun V hW hH a => en_lays hW hH (ht _ (tW_5 230 rfl))),
  (fun V hW hH a => en_lays hW hH (ht _ (tW_5 232 rfl))),
  (fun V hW hH a => en_lays hW hH (ht _ (tW_5 234 rfl))),
  (fun V hW hH a => en_lays hW hH (ht _ (tW_6 52 rfl))),
  (fun V hW hH a => en_lays hW hH (ht _ (tW_6 54 rfl))),
  (fun V hW hH a => en_str hW (ht _ (tW_6 147 rfl))),
  (fun V hW hH a => en_str hW (ht _ (tW_6 192 rfl))),
  (fun V hW hH a => en_str hW (ht _ (tW_7 111 rfl))),
  (fun V hW hH a => en_str hW (ht _ (tW_8 43 rfl))),
  (fun V hW hH a => en_str hW (ht _ (tW_8 137 rfl))),
  (fun V hW hH a => en_str hW (ht _ (tW_8 143 rfl))),
  (fun V hW hH a => en_str hW (ht _ (tW_8 153 rfl))),
  (fun V hW hH a => en_str hW (ht _ (tW_8 158 rfl))),
  (fun V hW hH a => en_str hW (ht _ (tW_8 181 rfl))),
  (fun V hW hH a => en_str hW (ht _ (tW_8 186 rfl))),
  (fun V hW hH a => en_str hW (ht _ (tW_8 211 rfl))),
  (fun V hW hH a => en_str hW (ht _ (tW_8 239 rfl))),
  (fun V hW hH a => en_str hW (ht _ (tW_9 65 rfl))),
  (fun V hW hH a => en_cast hW (ht _ (tW_11 14 rfl))),
  (fun V hW hH a => en_ncast hW (hn _ (by decide +kernel))),
  (fun V hW hH a => en_ncast hW (hn _ (by decide +kernel))),
  (fun V hW hH a => en_ncast hW (hn _ (by decide +kernel))),
  (fun V hW hH a => en_ncast hW (hn _ (by decide +kernel))),
  (fun V hW hH a => en_ncast hW (hn _ (by decide +kernel))),
  (fun V hW hH a => en_ncast hW (hn _ (by decide +kernel))),
  (fun V hW hH a => en_ncast hW (hn _ (by decide +kernel))),
  (fun V hW hH a => en_ncast hW (hn _ (by decide +kernel))),
  (fun V hW hH a => en_ncast hW (hn _ (by decide +kernel))),
  (fun V hW hH a => en_ncast hW (hn _ (by decide +kernel))),
  (fun V hW hH a => en_ncast hW (hn _ (by decide +kernel))),
  (fun V hW hH a => en_ncast hW (hn _ (by decide +kernel))),
  (fun V hW hH a => en_ncast hW (hn _ (by decide +kernel))),
  (fun V hW hH a => en_ncast hW (hn _ (by decide +kernel))),
  (fun V hW hH a => en_ncast hW (hn _ (by decide +kernel))),
  (fun V hW hH a => en_ncast hW (hn _ (by decide +kernel))),
  (fun V hW hH a => en_ncast hW (hn _ (by decide +kernel))),
  (fun V hW hH a => en_ncast hW (hn _ (by decide +kernel))),
  (fun V hW hH a => en_ncast hW (hn _ (by decide +kernel))),
  (fun V hW hH a => en_ncast hW (hn _ (by decide +kernel))),
  trivial⟩
theorem cls_in : allP (fun q : vw_C => (∀ w ∈ u_ws q.1 q.2.1 q.2.2, w ∈ gW) ∧ Cond.instantiable q.1 q.2.2 ∈ gW) cls := ⟨⟨iC0, w_1_71⟩, ⟨iC1, w_1_157⟩, ⟨iC2, w_2_140⟩, ⟨iC3, w_2_18⟩, ⟨iC4, w_2_213⟩, ⟨iC5, w_1_43⟩, ⟨iC6, w_2_26⟩, ⟨iC7, w_1_64⟩, ⟨iC8, w_2_131⟩, ⟨iC9, w_1_130⟩, ⟨iC10, w_1_186⟩, ⟨iC11, w_1_35⟩, ⟨iC12, w_9_71⟩, trivial⟩
theorem arr_known {s : State} {args : Array Value} {ty : FieldType} (hprim : ∀ C, ty ≠ .object C) (h : (Cond.arrayClass ty).before args s = true) : ∃ cA, ArrOfT s cA ty ∧ va_RA s cA ty := by
  obtain ⟨c, k, comp, h1, h2, h3⟩ := Cond.arrayClass_spec h
  refine ⟨c, fun n z => ⟨fun k h => (by cases h), k, h2, comp, h3⟩, ?_⟩
  cases ty with
  | object C => exact absurd rfl (hprim C)
  | _ => exact h1
theorem over_known {s : State} {args : Array Value} {C : String} (h : (Cond.arrayOver (.object C)).before args s = true) : ∃ cA, ArrOfT s cA (.object C) ∧ va_RA s cA (.object C) := by
  obtain ⟨comp, c, k, h1, -, h3, h4, h5⟩ := Cond.arrayOver_spec h
  exact ⟨c, fun n z => ⟨fun k h => (by cases h), k, h3, comp, h4⟩, k, comp, h3, h4, h1, h5⟩
theorem known {s : State} {args : Array Value} (ht : ∀ w ∈ lw_tbl, w.before args s = true) : ∃ (D : va_G) (kd : Nat → ClassId), va_K D cls (tyl kd) s := by
  have hg : ∀ w ∈ gW, w.before args s = true := fun w hw => ht w (List.mem_filter.mp hw).1
  have H : ∀ c : Nat, ∃ (cC : ClassId) (iS : Nat → Nat), ∀ q, cls[c]? = some q → u_Kn s q.1 q.2.1 q.2.2 cC iS := by
    intro c
    cases hq : cls[c]? with
    | none => exact ⟨0, fun _ => 0, fun q h => by cases h⟩
    | some q =>
      obtain ⟨h1, h2⟩ := allP_mem cls_in q (List.mem_of_getElem? hq)
      obtain ⟨cC, iS, h3⟩ := u_known (ws := gW) hg h1 (hg _ h2)
      exact ⟨cC, iS, fun q' e => by cases e; exact h3⟩
  obtain ⟨c0, a0⟩ := arr_known (fun C h => by cases h) (hg _ w_1_116)
  obtain ⟨c1, a1⟩ := arr_known (fun C h => by cases h) (hg _ w_1_62)
  obtain ⟨c2, a2⟩ := arr_known (fun C h => by cases h) (hg _ w_1_115)
  obtain ⟨c3, a3⟩ := arr_known (fun C h => by cases h) (hg _ w_11_4)
  obtain ⟨c4, a4⟩ := over_known (ht _ (tW_1 70 rfl))
  obtain ⟨c5, a5⟩ := over_known (ht _ (tW_2 24 rfl))
  obtain ⟨c6, a6⟩ := over_known (ht _ (tW_2 137 rfl))
  refine ⟨(fun c => Classical.choose (H c), fun c => Classical.choose (Classical.choose_spec (H c))), fun k => [c0, c1, c2, c3, c4, c5, c6].getD k 0, fun c q hq => Classical.choose_spec (Classical.choose_spec (H c)) q hq, fun k q hk => ?_⟩
  have hall : allP (fun q : ClassId × FieldType => ArrOfT s q.1 q.2 ∧ va_RA s q.1 q.2) (tyl (fun k => [c0, c1, c2, c3, c4, c5, c6].getD k 0)) := ⟨a0, a1, a2, a3, a4, a5, a6, trivial⟩
  exact allP_mem hall q (List.mem_of_getElem? hk)
/-! the claim out of a run of the abstract machine: the skeleton's course, with the flags and the empty table of handlers handed on -/
def R_law : String := "FlashVaultLaw"
def lw_P (b : Addr) (xs : List Int32) (args : Array Value) (s : State) : Prop := args = #[.ref b] ∧ s.IntsAt b xs ∧ xs.length ≤ 3073 ∧ (Jvm.Cond.and given_1 narrow_1).before args s = true
def lw_Q (_ : Array Value) (s : State) (o : Outcome) (t : State) : Prop := o = .returned (some (.int 1)) ∧ Framed s o t [] 601024 7293000
def lw_Z (below : List Frame) (a : Array Value) (s : State) : State → Prop := fun t => ∃ o, t.status = .running ∧ Ended t below o ∧ lw_Q a s o t
def lw_At (p : Program) (s : State) (m : MethodId) (meth : Method) (c : Code) (b L : Nat) (xs : Nat → Int32) : Prop :=
  p.tables.exec = Jvm.exec ∧ c.code = code ∧ meth.sig.returnType = ret ∧ c.maxLocals = 8 ∧ s.vm.findClass R_law = some m.cls ∧ (∀ w ∈ lw_tbl, w.before #[Value.ref b] s = true) ∧ va_X b L xs s s.heap ∧ b < s.heap.size ∧ meth.locks = false ∧ (Jvm.Cond.and given_1 narrow_1).before #[Value.ref b] s = true ∧ c.exceptionTable = #[]
/-- the law comes to its end with true -/
def goodRun (L : Nat) (xs : Nat → Int32) : Prop := ∃ (f : Nat) (H : aH) (k n : Nat), run mtb (L, xs) f 2000 mr_law 0 [(0, .ref 0)] [] [] 0 0 = some (.inl (some (.int 1)), H, k, n) ∧ k ≤ 601024 ∧ n ≤ 7293000
theorem whole_start {p : Program} {e : Env} {s : State} {m : MethodId} {below : List Frame} {meth : Method} {c : Code} (l : Launch) (hl0 : l.stackTraces = false) {b L : Nat} {xs : Nat → Int32} (C0 : lw_At p s m meth c b L xs) (hr : goodRun L xs) : W p l e room_1 s m #[Value.ref b] below meth c s.heap [] 0 0 (lw_Z below #[Value.ref b] s) (entryFrame m ([Value.ref b] : List Value).toArray 8) := by
  obtain ⟨g1, g2, g3, g4, g5, g6, g7, g8, g9, g10, g11⟩ := C0
  obtain ⟨f, H, k, n, hr, hk, hn⟩ := hr
  obtain ⟨D, kd, hK⟩ := known g6
  have hE := eW_hold g6 (flat_of_before _ g10)
  have hT : tT (s.heap.size, b, L, xs) s := ⟨fun w hw a => word_at (State.WarmedH.refl s) (gW_good w hw) (g6 w (List.mem_filter.mp hw).1), fun V hW hq w hw a => allP_mem hE w hw V hW hq a, g7, g8⟩
  obtain ⟨-, PT⟩ := snd (l := l) (kd := kd) (D := D) (z := (s.heap.size, b, L, xs)) hl0 mtb_ok f 2000 mr_law 0 _ _ _ _ _ _ mr_law_m hr
  have K0 := PT [] ([], fun _ => .inl (0, 0, .inl fun _ => 0)) ⟨rfl, List.nodup_nil, rfl, (fun j q h => by simp at h), (fun j q h => by simp at h)⟩ (fun q hq => by rw [List.mem_singleton.mp hq]; trivial) (fun v hv => by cases hv) room_1 (fun o _ => o = .inl (some (.int 1))) (by decide) (by decide) hk hn (fun A' S' _ _ _ => rfl)
  have hl := lv_entry [Value.ref b] (n := 8) (Nat.le_of_ble_eq_true rfl)
  have K := K0 p e s m #[Value.ref b] below meth c s.heap [] _ ⟨g1, g2, g4, g5, hT, hK, g3, g9, (fun h => by cases h), by rw [g11]; rfl⟩ ⟨(fun k q h => by cases h), ⟨(fun i j p q h => by cases h), (fun k q h => by cases h)⟩, va_S.rf, Nat.le_refl _⟩ hl
  simp only [List.map_nil] at K
  rw [← lg_entry_eq] at K
  refine W.mono ?_ K
  intro t ht
  obtain ⟨o, h1, h2, ⟨⟨S, hU, ho⟩, hF⟩, Lc, ⟨hW, hs⟩, hLc⟩ := ht
  rcases ho with ⟨v, rfl, hv⟩ | ⟨a, k', C, cell, -, hv, -⟩
  · cases hv
    exact ⟨_, h1, h2, rfl, ⟨_, rfl⟩, hW, hs.sift (fun x hx => Or.inr (hLc x hx))⟩
  · cases hv
set_option maxHeartbeats 4000000 in
theorem lw_walk (l : Launch) (hl0 : l.stackTraces = false) (hp : ∀ (L : Nat) (xs : Nat → Int32), L ≤ 3073 → goodRun L xs) (b : Addr) (xs : List Int32) : MetFree l x (headSpec (Jvm.Cond.code x code maxLocals ret :: tables_1) room_1) (lw_P b xs) (fun _ _ _ _ _ => True) lw_Q := by
  refine MetFree.of_bodyS (code := code) (maxLocals := maxLocals) (ret := ret) (by decide) ?_ ?_
  · intro args s m h hn
    obtain ⟨meth, c, h1, h2, h3, h4, h5, h6, -, -⟩ := Cond.code_spec hn (atoms_spec (ws := Jvm.Cond.code x code maxLocals ret :: tables_1) h _ List.mem_cons_self)
    exact ⟨meth, c, h1, h2, h3, h4, h5, h6⟩
  · intro p e s m args below meth c s₁ B hml0 hP _
    obtain ⟨rfl, hx, hbd, hgv⟩ := hP
    obtain ⟨scr, harrAt, hlist, hof, hsmall⟩ := hx
    obtain ⟨hcb, hkn, -, -⟩ := State.arrayAt?_spec harrAt
    have hown : s.vm.findClass R_law = some m.cls := findClass_of_methodNamed B.named
    have hts0 : ∀ c ∈ (Jvm.Cond.code x code maxLocals ret :: tables_1), c.before #[Value.ref b] s = true := atoms_spec (ws := Jvm.Cond.code x code maxLocals ret :: tables_1) B.pre
    have hts : ∀ w ∈ lw_tbl, w.before #[Value.ref b] s = true := k2_hts_sels lw_privs (fun w hw => hts0 w (List.mem_cons_of_mem _ hw)) lw_privs_ok
    have hml : c.maxLocals = 8 := B.maxLocals_eq (hts0 _ List.mem_cons_self)
    have hem : c.exceptionTable = #[] := Array.isEmpty_iff.mp (B.noHandlers (hts0 _ List.mem_cons_self))
    have X₀ : Stand p l e room_1 s m #[Value.ref b] below meth c s₁ [] 0 0 := Stand.of_body B
    have hh0 : s₁.heap = s.heap := by rw [B.state]; rfl
    have hsz : scr.slots.size = xs.length := by rw [← Array.length_toList, hlist, List.length_map]
    have hval : ∀ j : Nat, j < xs.length → scr.slots[j]? = some (.int (xs.getD j 0)) := fun j hj => by
      rw [← Array.getElem?_toList, hlist]
      simp [hj]
    have hbl : b < s.heap.size := (Array.getElem?_eq_some_iff.mp hcb).1
    have hX : va_X b xs.length (fun j => xs.getD j 0) s s.heap := ⟨scr, hcb, hof, hkn, hsz, hval⟩
    have K : W p l e room_1 s m #[Value.ref b] below meth c s₁.heap [] 0 0 (lw_Z below #[Value.ref b] s) (entryFrame m ([Value.ref b] : List Value).toArray 8) := by
      rw [hh0]
      exact whole_start l hl0 ⟨B.exec, B.bytes, B.returns, hml, hown, hts, hX, hbl, B.notSynchronized, hgv, hem⟩ (hp _ _ hbd)
    obtain ⟨t, a1, o, b1, b2, b3⟩ := K s₁ rfl X₀
    exact ⟨t, o, a1, b1, b2, b3⟩
theorem lw_pre_spec {args : Array Value} {s : State} (h : (Jvm.Cond.and given_1 narrow_1).before args s = true) (hr : rest_1_c.before args s = true) : ∃ (b : Addr) (xs : List Int32), lw_P b xs args s := by
  have hs := flat_of_before _ h
  have hq := flat_of_before _ hr
  have hc : (Cond.count 1).before args s = true := hs _ (by decide +kernel)
  have harr : (Cond.arrayOf (.arg 0) .int).before args s = true := hs _ (by decide +kernel)
  have hle : (Cond.le (.length (.arg 0)) (.int 3073)).before args s = true := hs _ (by decide +kernel)
  have hlen : (Cond.isInt (.length (.arg 0))).before args s = true := hq _ (by decide +kernel)
  have hall : (Cond.all (.arg 0) (.isInt (.elem (.arg 0) (.index 0)))).before args s = true := hq _ (by decide +kernel)
  obtain ⟨b, xs, hb, hx⟩ := State.ints_of_pre rfl harr hlen hall
  have hsm : xs.length < 2 ^ 31 := hx.choose_spec.2.2.2
  have hev : (Term.length (.arg 0)).eval args s none [] s = some (.int xs.length.toInt32) := hx.length_eval hb
  have hv := Cond.le_ints hev (show (Term.int 3073).eval args s none [] s = some (.int 3073) from rfl)
  have hd : xs.length.toInt32 ≤ 3073 := by
    simpa [Cond.before, Cond.holds, hv] using hle
  have hN : xs.length ≤ 3073 := (Int32.ofNat_le_ofNat hsm (by decide)).mp (show Int32.ofNat xs.length ≤ Int32.ofNat 3073 from hd)
  exact ⟨b, xs, Cond.one_arg hc (show args[0]? = some (.ref b) from hb), hx, hN, h⟩
theorem lw_comes (l : Launch) (hl0 : l.stackTraces = false) (hp : ∀ (L : Nat) (xs : Nat → Int32), L ≤ 3073 → goodRun L xs) : Comes l x (Jvm.Cond.code x code maxLocals ret :: tables_1) room_1 (fun tb e args s => Calls_1 tb e args s ∧ rest_1 tb e args s ∧ Pre_1 tb e args s)
    (fun _ _ args s o t => lw_Q args s o t) := by
  intro p e ha hc hk s m args below hf hfit hheap happ hpre
  obtain ⟨b, xs, hP⟩ := lw_pre_spec hpre.2.2 hpre.2.1
  obtain ⟨k, o, h1, h2, h3, hQ⟩ := lw_walk l hl0 hp b xs p e ha hc hk s m args below hf ((Spec.applies_iff_loose hf).mp happ).1 hP trivial
  exact ⟨k, o, h1, h2, h3, hQ⟩
theorem lw_frame {s t : State} {o : Outcome} {args : Array Value} (h : Framed s o t [] 601024 7293000) :
    Framed s o t (fieldLocs frame_1_writes args s ++ arrayLocs frame_1_arrays args s ++ staticLocs frame_1_statics s) 601024 7293000 := h
theorem lw_limb (hp : ∀ (L : Nat) (xs : Nat → Int32), L ≤ 3073 → goodRun L xs) (L : Cond) (hL : ∀ (args : Array Value) (s t : State), L.after args s (.returned (some (.int 1))) t = true) :
    ArmFor flags0 classFile x code maxLocals ret World_1 tables_1 room_1 Calls_1 rest_1 Pre_1
      (fun tb e a s o t => postC L tb e a s o t ∧ Framed s o t (fieldLocs frame_1_writes a s ++ arrayLocs frame_1_arrays a s ++ staticLocs frame_1_statics s) 601024 7293000) := by
  intro l hfl _ _ p e ha hc hk s m args below hf hfit hheap happ hpre
  have hl0 : l.stackTraces = false := by
    unfold Launch.stackTraces
    rw [hfl]
    decide +kernel
  obtain ⟨k, o, h1, h2, h3, rfl, hF⟩ := lw_comes l hl0 hp p e ha hc hk s m args below hf hfit hheap happ hpre
  exact ⟨k, _, h1, h2, h3, hL args s _, lw_frame hF⟩
/-- the claim, once every script's run of the abstract machine is good -/
theorem claim_of (hp : ∀ (L : Nat) (xs : Nat → Int32), L ≤ 3073 → goodRun L xs) : Claimed_1_1 ∧ Claimed_1_2 := ⟨lw_limb hp limb_1_1 (fun args s t => by simp [limb_1_1, Cond.after, Cond.holds, Cond.value]), lw_limb hp limb_1_2 (fun args s t => Cond.after_iff.mpr (by
  first | (rw [show limb_1_2 = Cond.eq .result (.int 1) from rfl, Cond.eq_ints (x := 1) (y := 1) rfl rfl]; simp; done) | (simp [limb_1_2, Cond.value, Term.eval]; done)))⟩
