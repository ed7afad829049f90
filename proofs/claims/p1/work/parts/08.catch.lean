/-! ===== an exception that is caught: the search through the method's table, its classes resolved or not ===== -/
section TK
variable {E : CtlPost} {e : Env} {d : Bool} {acts : List Action} {f : JFrame} {a : Addr} {Q : Handler → Pre}
/-- what the search gives, and the tables behind it -/
def xFinds (e : Env) (u : State) (f : JFrame) (a : Addr) (h : Handler) (u' : State) : Prop := ∀ (Q : Handler → Pre) (E : CtlPost) (d : Bool) (acts : List Action), wp (findHandler f a) Q E e d acts u ↔ Q h d acts u'
theorem xGo {u : State} {x : ExceptionTableEntry} {t : List ExceptionTableEntry} {c : ClassId} {vm' : Vm} {cell : Cell} (hx : covers x f.pc = true) (h0 : x.catchType ≠ 0)
    (hg : (Jvm.resolveClass f.method.cls x.catchType).Gives e.toSetting u.vm (.ok c) vm') (hsz : vm'.classes.size ≤ u.vm.classes.size)
    (hcell : u.heap[a]? = some cell) (hobj : ∀ k, cell.vm ≠ .statics k) (hk : ∃ k, vm'.classes[cell.cls]? = some k) (hc : ∃ k, vm'.classes[c]? = some k) :
    wp (findHandler.go f a (x :: t)) Q E e d acts u ↔
      if vm'.assignable cell.cls c = true then Q (.found x.handlerPc) d acts (u.setVm vm') else wp (findHandler.go f a t) Q E e d acts (u.setVm vm') := by
  simp only [covers] at hx
  obtain ⟨ha, ht⟩ := hg.op (op := VmOp.resolveClass f.method.cls x.catchType) rfl
  cases hfit : vm'.assignable cell.cls c <;>
    simp [findHandler.go, hx, h0, ha, ht, hsz, hcell, hobj, hk, hc, hfit, VmOp.dirties, VmOp.acts]
theorem xStepCatch {u : State} {vm' : Vm} {r : List Frame} {pc : Nat} (hfind : xFinds e u f a (.found pc) (u.setVm vm')) :
    (stepThrowing e u a (.java f :: r)).Is ((u.setVm vm').setFrames (.java { f with pc := pc, stack := [.ref a] } :: r)) [] := by
  simp only [stepThrowing, searchFrame, vmDo]
  generalize hr : Sem.go _ e false [] u = res
  obtain ⟨as, rfl, ha⟩ := Sem.eq_ok_of hr (a := Handler.found pc) (s' := u.setVm vm') (acts' := []) (by simp [hfind _ _ _ _])
  exact ⟨rfl, ha⟩
theorem xCaught {tb : Tables} {u target : State} {g : JFrame} {c : Code} {below : List Frame} {vm' : Vm} (h : At u g.method c below) {pc : Nat} (hfind : xFinds e ((u.setTop g).pushFrame (.throwing a)) g a (.found pc) (((u.setTop g).pushFrame (.throwing a)).setVm vm'))
    (hrest : Steps tb e below ((u.setVm vm').setTop { g with pc := pc, stack := [.ref a] }) target) : Steps tb e below ((u.setTop g).pushFrame (.throwing a)) target := by
  obtain ⟨hgo, hw⟩ := h.throwing a
  refine Steps.head hgo hw ?_
  rw [stepThread_throwing (frames_entered h.top _), (xStepCatch (u := (u.setTop g).pushFrame (.throwing a)) hfind).1]
  obtain ⟨g₀, hg⟩ := Option.isSome_iff_exists.mp h.top
  obtain ⟨r, hr⟩ := State.topJava?_eq_some.mp hg
  have hr' : (u.setVm vm').frames = .java g₀ :: r := hr
  rw [State.setTop_of_frames _ hr'] at hrest
  have e1 : (((u.setTop g).pushFrame (.throwing a)).setVm vm').setFrames (.java { g with pc := pc, stack := [.ref a] } :: u.frames.tail) = (u.setVm vm').setFrames (.java { g with pc := pc, stack := [.ref a] } :: u.frames.tail) := by
    rw [State.pushFrame, State.setTop_of_frames _ hr, State.setFrames_setFrames]
    show ((u.setVm vm').setFrames _).setFrames _ = _
    rw [State.setFrames_setFrames]
  rw [e1, hr]
  exact hrest
end TK
section TK2
variable {e : Env} {f : JFrame} {a : Addr} {s : State} {own C : String} {args : Array Value}
theorem xNotCast {A B : String} {c t : ClassId} (h : (Cond.not (Cond.castable A B)).before args s = true) (ha : s.vm.findClass A = some c) (hb : s.vm.findClass B = some t) : s.vm.assignable c t = false := by
  simp only [Cond.before, Cond.holds, Cond.value, ha, hb] at h
  cases hh : s.vm.assignable c t with
  | false => rfl
  | true => simp [hh] at h
/-- the entry lets the exception pass -/
def xPass (own C : String) (args : Array Value) (s : State) (pc : Nat) (x : ExceptionTableEntry) : Prop := covers x pc = false ∨ (covers x pc = true ∧ x.catchType ≠ 0 ∧ ∃ B, (Cond.classLink own x.catchType B).before args s = true ∧ (Cond.not (Cond.castable C B)).before args s = true)
def xHit (own C : String) (args : Array Value) (s : State) (pc : Nat) (x : ExceptionTableEntry) : Prop := covers x pc = true ∧ x.catchType ≠ 0 ∧ ∃ B, (Cond.classLink own x.catchType B).before args s = true ∧ (Cond.castable C B).before args s = true
theorem xEntry {u : State} {x : ExceptionTableEntry} {t : List ExceptionTableEntry} {B : String} {cell : Cell} (hpl : e.platform.magicAccessors = ({} : Platform).magicAccessors) (hown : s.vm.findClass own = some f.method.cls) (hW : s.WarmedH u.vm) (hx : covers x f.pc = true) (h0 : x.catchType ≠ 0) (hlink : (Cond.classLink own x.catchType B).before args s = true)
    (hcell : u.heap[a]? = some cell) (hobj : cell.vm.isStatics = false) (hC : s.vm.findClass C = some cell.cls) : ∃ (vm' : Vm) (cB : ClassId), s.WarmedH vm' ∧ s.vm.findClass B = some cB ∧ ∀ (Q : Handler → Pre) (E : CtlPost) (d : Bool) (acts : List Action), wp (findHandler.go f a (x :: t)) Q E e d acts u ↔
      if s.vm.assignable cell.cls cB = true then Q (.found x.handlerPc) d acts (u.setVm vm') else wp (findHandler.go f a t) Q E e d acts (u.setVm vm') := by
  obtain ⟨cB, hfB, hcl⟩ := Cond.classLink_spec hown hlink e.platform hpl
  obtain ⟨hg₁, hwarm₁, hready₁⟩ := State.classEntry (e := e) hW hcl
  refine ⟨_, cB, hwarm₁, hfB, fun Q E d acts => ?_⟩
  have hal : u.vm.Alike (u.vm.noted f.method.cls x.catchType (.cls cB)) := hW.alike.symm.trans hwarm₁.alike
  have hk : ∃ k, (u.vm.noted f.method.cls x.catchType (.cls cB)).classes[cell.cls]? = some k := by
    obtain ⟨k, hk⟩ := Vm.classAt_of_findClass hC
    obtain ⟨k', hk', -⟩ := hwarm₁.alike.2.2 _ _ hk
    exact ⟨k', hk'⟩
  have hk2 : ∃ k, (u.vm.noted f.method.cls x.catchType (.cls cB)).classes[cB]? = some k := by
    obtain ⟨k, hk⟩ := Vm.classAt_of_findClass hfB
    obtain ⟨k', hk', -⟩ := hwarm₁.alike.2.2 _ _ hk
    exact ⟨k', hk'⟩
  rw [xGo hx h0 hg₁ hal.size_le hcell (fun k h => by rw [h] at hobj; cases hobj) hk hk2, hwarm₁.alike.assignable]
theorem xSearch {cell : Cell} {x : ExceptionTableEntry} {post : List ExceptionTableEntry} (hpl : e.platform.magicAccessors = ({} : Platform).magicAccessors) (hown : s.vm.findClass own = some f.method.cls) (hobj : cell.vm.isStatics = false) (hC : s.vm.findClass C = some cell.cls) (hx : xHit own C args s f.pc x) :
    ∀ (pre : List ExceptionTableEntry) (u : State), s.WarmedH u.vm → u.heap[a]? = some cell → (∀ y ∈ pre, xPass own C args s f.pc y) → ∃ vm' : Vm, s.WarmedH vm' ∧ ∀ (Q : Handler → Pre) (E : CtlPost) (d : Bool) (acts : List Action), wp (findHandler.go f a (pre ++ x :: post)) Q E e d acts u ↔ Q (.found x.handlerPc) d acts (u.setVm vm') := by
  intro pre
  induction pre with
  | nil =>
    intro u hW hcell _
    obtain ⟨h1, h2, B, h3, h4⟩ := hx
    obtain ⟨vm', cB, hw, hB, hgo⟩ := xEntry (e := e) (a := a) (t := post) hpl hown hW h1 h2 h3 hcell hobj hC
    obtain ⟨c1, c2, g1, g2, g3⟩ := Cond.castable_spec h4
    cases g1.symm.trans hC
    cases g2.symm.trans hB
    exact ⟨vm', hw, fun Q E d acts => by rw [List.nil_append, hgo, if_pos g3]⟩
  | cons y pre ih =>
    intro u hW hcell hp
    rcases hp y List.mem_cons_self with h | ⟨h1, h2, B, h3, h4⟩
    · obtain ⟨vm', hw, hgo⟩ := ih u hW hcell (fun q hq => hp q (List.mem_cons_of_mem _ hq))
      exact ⟨vm', hw, fun Q E d acts => by rw [List.cons_append, W.findHandler_go_skip h]; exact hgo Q E d acts⟩
    · obtain ⟨vm1, cB, hw1, hB, hgo1⟩ := xEntry (e := e) (a := a) (t := pre ++ x :: post) hpl hown hW h1 h2 h3 hcell hobj hC
      have hna : s.vm.assignable cell.cls cB = false := xNotCast h4 hC hB
      obtain ⟨vm', hw, hgo⟩ := ih (u.setVm vm1) hw1 hcell (fun q hq => hp q (List.mem_cons_of_mem _ hq))
      exact ⟨vm', hw, fun Q E d acts => by rw [List.cons_append, hgo1, if_neg (by rw [hna]; decide)]; exact hgo Q E d acts⟩
end TK2
section TK3
variable {cc : ByteArray} {own : String} {nL : Nat} {ret : Option FieldType} {ini : Bool} {hh : List (Nat × Nat × Nat × Nat)} {rm : Room} {D : va_G} {tys : List (ClassId × FieldType)} {z : tZ} {l : Launch} {Q : tO → tS → Prop} {kc ks : Nat} {pc : Nat} {lv : List (Nat × Value)} {st : List Value} {S : tS}
/-- caught: on at the handler, behind its astore -/
theorem tt_catch {k pc' n' i : Nat} {C : String} (hC : excs[k]? = some C) (pre : List (Nat × Nat × Nat × Nat)) (x : Nat × Nat × Nat × Nat) (post : List (Nat × Nat × Nat × Nat)) (hs : hh = pre ++ x :: post)
    (hpre : ∀ y ∈ pre, ¬ (y.1 ≤ pc ∧ pc < y.2.1) ∨ ((y.1 ≤ pc ∧ pc < y.2.1) ∧ y.2.2.2 ≠ 0 ∧ ∃ B, Cond.classLink own y.2.2.2 B ∈ gW ∧ Cond.not (Cond.castable C B) ∈ eW))
    (hx : (x.1 ≤ pc ∧ pc < x.2.1) ∧ x.2.2.2 ≠ 0 ∧ x.2.2.1 = pc' ∧ ∃ B, Cond.classLink own x.2.2.2 B ∈ gW ∧ Cond.castable C B ∈ eW)
    (hn : i < nL) (hd : (decode cc pc' = .ok (.astore i, 2) ∧ n' = 2) ∨ (∃ q : Fin 4, decode cc pc' = .ok (.astore_n q, 1) ∧ (q : Nat) = i ∧ n' = 1)) {lv' : List (Nat × Value)} (hlv : lv.filter (fun q => !(q.1 == i) && !(q.1 + 1 == i && q.2.category == 2)) = lv')
    (kk : tP cc own nL ret ini hh rm D tys z l Q kc ks (pc' + n') lv' [] S) : tY cc own nL ret ini hh rm D tys z l Q kc ks pc lv k S := by
  intro p e s m args below meth c T locs ls st a C' cell X hH hl Y hC' hcl hcv hcf
  cases hC.symm.trans hC'
  have hpl : e.platform.magicAccessors = ({} : Platform).magicAccessors := by rw [Y.admits.platform]
  have hg : ∀ w ∈ gW, w.before args s = true := fun w hw => X.2.2.2.2.1.1 w hw args
  have he : ∀ w ∈ eW, w.before args s = true := fun w hw => X.2.2.2.2.1.2.1 s (State.WarmedH.refl s) (fun _ _ => rfl) w hw args
  have hCs : s.vm.findClass C = some cell.cls := by rw [← Y.warmed.alike.findClass]; exact hcf
  have htab := X.2.2.2.2.2.2.2.2.2
  rw [hs] at htab
  obtain ⟨pre', rest', h1, h2, h3⟩ := List.map_eq_append_iff.mp htab
  obtain ⟨x', post', h4, h5, h6⟩ := List.map_eq_cons_iff.mp h3
  subst h4
  have cov : ∀ (y : ExceptionTableEntry), covers y pc = decide (y.startPc ≤ pc ∧ pc < y.endPc) := by
    intro y
    simp [covers]
  have hpass : ∀ y ∈ pre', xPass own C args s pc y := by
    intro y hy
    have hm : (y.startPc, y.endPc, y.handlerPc, y.catchType) ∈ pre := by rw [← h2]; exact List.mem_map.mpr ⟨y, hy, rfl⟩
    rcases hpre _ hm with h | ⟨h, h0, B, b1, b2⟩
    · exact Or.inl (by rw [cov]; exact decide_eq_false h)
    · exact Or.inr ⟨by rw [cov]; exact decide_eq_true h, h0, B, hg _ b1, he _ b2⟩
  obtain ⟨hx1, hx2, hx3, B, b1, b2⟩ := hx
  rw [← h5] at hx1 hx2 hx3 b1
  have hhit : xHit own C args s pc x' := ⟨by rw [cov]; exact decide_eq_true hx1, hx2, B, hg _ b1, he _ b2⟩
  obtain ⟨vm', hw, hgo⟩ := xSearch (e := e) (f := F0 m pc ls st) (a := a) (post := post') hpl X.2.2.2.1 hcv hCs hhit pre' ((T.setTop (F0 m pc ls st)).pushFrame (.throwing a)) (by rw [throwing_vm]; exact Y.warmed) (by rw [throwing_heap]; exact hcl) hpass
  have hfind : xFinds e ((T.setTop (F0 m pc ls st)).pushFrame (.throwing a)) (F0 m pc ls st) a (.found pc') (((T.setTop (F0 m pc ls st)).pushFrame (.throwing a)).setVm vm') := by
    intro Q1 E1 d1 acts1
    rw [W.findHandler_eq (meth := meth) (code := c) (by rw [throwing_vm]; exact Y.method') Y.code, h1, hgo, ← hx3]
  have Y' := Y.noted hw
  have hH' : tH D z S s.heap (T.setVm vm').heap locs := hH
  have fin : W p l e rm s m args below meth c (T.setVm vm').heap locs kc ks (fun t => ∃ o, t.status = .running ∧ Ended t below o ∧ tG D tys z Q rm s o t) (F0 m pc' ls [.ref a]) := by
    rcases hd with ⟨hd, hn'⟩ | ⟨q, hd, hq, hn'⟩
    · subst hn'
      refine lv_astore X.1 X.2.1 hd hl hn rfl (fun ls' hl' => ?_)
      refine kk p e s m args below meth c _ locs ls' X hH' ?_
      rw [← hlv]
      exact ⟨hl'.1, hl'.2.1, fun q hq => hl'.2.2 q (List.mem_cons_of_mem _ hq)⟩
    · subst hn'
      refine lv_astore_n X.1 X.2.1 hd hq hl hn rfl (fun ls' hl' => ?_)
      refine kk p e s m args below meth c _ locs ls' X hH' ?_
      rw [← hlv]
      exact ⟨hl'.1, hl'.2.1, fun q hq => hl'.2.2 q (List.mem_cons_of_mem _ hq)⟩
  obtain ⟨t, f1, f2⟩ := fin (T.setVm vm') rfl Y'
  exact ⟨t, xCaught (u := T) (g := F0 m pc ls st) Y.here hfind f1, f2⟩
end TK3
