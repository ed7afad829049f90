/-! ===== the user's versions of class and reference, in every step; by hand ===== -/
/-- one behind another the same keys, moments and values -/
def SameV (c c' : Nat → Int8) : List aV → List aV → Prop
  | [], [] => True
  | v :: vs, w :: ws => (w.1 = v.1 ∧ w.2.1 = v.2.1 ∧ toM c' w = toM c v ∧ ouV w = ouV v) ∧ SameV c c' vs ws
  | _, _ => False
theorem rel_norm {op : Nat → Bool} {sm : Nat → Nat} {c : Nat → Int8} {vs : List aV} {ms : List aMV} (h : RelU op sm c vs ms) (h1 : OneV vs) : ∃ zk : List Nat → Nat → Bool, ((vs.filter (fun v => usV v && !(zk v.1 v.2.1))).map (toM c)).Perm ms ∧ ∀ z ∈ vs, usV z = true → zk z.1 z.2.1 = true → Zom op sm vs z := by
  obtain ⟨zb, hP, hz⟩ := h
  have key : ∀ v ∈ vs, (vs.any (fun u => zb u && (decide (u.1 = v.1) && decide (u.2.1 = v.2.1)))) = zb v := fun v hv => by
    cases e : zb v with
    | true => exact List.any_eq_true.mpr ⟨v, hv, by rw [e, decide_eq_true rfl, decide_eq_true rfl]; rfl⟩
    | false =>
      cases e2 : vs.any (fun u => zb u && (decide (u.1 = v.1) && decide (u.2.1 = v.2.1))) with
      | false => rfl
      | true =>
        obtain ⟨u, hu, q⟩ := List.any_eq_true.mp e2
        rw [Bool.and_eq_true, Bool.and_eq_true, decide_eq_true_iff, decide_eq_true_iff] at q
        rw [h1 u hu v hv q.2.1 q.2.2, e] at q
        exact Bool.noConfusion q.1
  refine ⟨fun k m => vs.any (fun u => zb u && (decide (u.1 = k) && decide (u.2.1 = m))), ?_, fun z hz1 hz2 hz3 => hz z hz1 hz2 (by rw [← key z hz1]; exact hz3)⟩
  rw [List.filter_congr (fun v hv => by rw [key v hv] : ∀ v ∈ vs, (usV v && !(vs.any (fun u => zb u && (decide (u.1 = v.1) && decide (u.2.1 = v.2.1))))) = (usV v && !(zb v)))]
  exact hP
theorem same_mem {c c' : Nat → Int8} : ∀ {vs ws : List aV}, SameV c c' vs ws → ∀ w ∈ ws, ∃ v ∈ vs, w.1 = v.1 ∧ w.2.1 = v.2.1 ∧ ouV w = ouV v
  | [], [], _, w, hw => absurd hw List.not_mem_nil
  | v :: vs, u :: ws, h, w, hw => by
    rcases List.mem_cons.mp hw with q | q
    · rw [q]; exact ⟨v, List.mem_cons_self, h.1.1, h.1.2.1, h.1.2.2.2⟩
    · obtain ⟨x, x1, x2⟩ := same_mem h.2 w q
      exact ⟨x, List.mem_cons_of_mem _ x1, x2⟩
  | [], _ :: _, h, _, _ => h.elim
theorem same_map {c c' : Nat → Int8} {zk : List Nat → Nat → Bool} : ∀ {vs ws : List aV}, SameV c c' vs ws → (ws.filter (fun v => usV v && !(zk v.1 v.2.1))).map (toM c') = (vs.filter (fun v => usV v && !(zk v.1 v.2.1))).map (toM c)
  | [], [], _ => rfl
  | v :: vs, w :: ws, h => by
    obtain ⟨⟨e1, e2, e3, -⟩, h2⟩ := h
    have hu : (usV w && !(zk w.1 w.2.1)) = (usV v && !(zk v.1 v.2.1)) := by unfold usV; rw [e1, e2]
    rw [List.filter_cons, List.filter_cons, hu]
    split
    · rw [List.map_cons, List.map_cons, e3, same_map h2]
    · exact same_map h2
  | [], _ :: _, h => h.elim
  | _ :: _, [], h => h.elim
theorem RelU.same {op : Nat → Bool} {sm : Nat → Nat} {c c' : Nat → Int8} {vs ws : List aV} {ms : List aMV} (h : RelU op sm c vs ms) (h1 : OneV vs) (hS : SameV c c' vs ws) : RelU op sm c' ws ms := by
  obtain ⟨zk, hP, hz⟩ := rel_norm h h1
  refine ⟨fun v => zk v.1 v.2.1, by rw [same_map hS]; exact hP, fun z hz1 hz2 hz3 => ?_⟩
  obtain ⟨v, hv, e1, e2, e3⟩ := same_mem hS z hz1
  have hzo := hz v hv (by rw [← hz2]; unfold usV; rw [e1]) (by rw [← e1, ← e2]; exact hz3)
  refine ⟨e3.trans hzo.1, by rw [e2]; exact hzo.2.1, fun u hu hk => ?_⟩
  obtain ⟨w, hw, f1, f2, -⟩ := same_mem hS u hu
  rw [f2, e2]
  exact hzo.2.2 w hw (f1.symm.trans (hk.trans e1))
theorem toM_eq {c c' : Nat → Int8} {v w : aV} (h1 : w.1 = v.1) (h2 : w.2.1 = v.2.1) (h3 : w.2.2.2.1 = v.2.2.2.1) (h4 : v.2.2.2.1 ≠ none → valB c' w = valB c v) : toM c' w = toM c v := by
  have hv : ∀ (c : Nat → Int8) (v : aV), toM c v = (v.1.tail, v.2.1, valV c v) := fun _ _ => rfl
  rw [hv, hv, h1, h2]
  by_cases e : v.2.2.2.1 = none
  · unfold valV
    rw [h3, e]
    rfl
  · rw [valV_of (by rw [h3]; exact e), valV_of e, h4 e]
theorem same_told {c c' : Nat → Int8} : ∀ {vs : List aV}, (∀ v ∈ vs, v.2.2.2.1 ≠ none → valB c' v = valB c v) → SameV c c' vs (vs.map toldV)
  | [], _ => trivial
  | v :: vs, h => ⟨⟨rfl, rfl, toM_eq rfl rfl rfl (h v List.mem_cons_self), rfl⟩, same_told (fun u hu => h u (List.mem_cons_of_mem _ hu))⟩
theorem same_chip {c c' : Nat → Int8} : ∀ {vs : List aV}, (∀ v ∈ vs, v.2.2.2.1 ≠ none → valB c' v = valB c v) → SameV c c' vs vs
  | [], _ => trivial
  | v :: vs, h => ⟨⟨rfl, rfl, toM_eq rfl rfl rfl (h v List.mem_cons_self), rfl⟩, same_chip (fun u hu => h u (List.mem_cons_of_mem _ hu))⟩
theorem same_mvA {c c' : Nat → Int8} {blk : Option Nat} {Q : Nat → Nat} : ∀ {vs : List aV} {i : Nat}, (∀ j v, vs[j]? = some v → v.2.2.2.1 ≠ none → valB c' (mvV blk Q (i + j) v) = valB c v) → SameV c c' vs (mvL blk Q i vs)
  | [], _, _ => trivial
  | v :: vs, i, h => by
    have hs := mvV_same (blk := blk) (Q := Q) (j := i) (v := v)
    refine ⟨⟨hs.1, hs.2.1, toM_eq hs.1 hs.2.1 hs.2.2.1 (h 0 v rfl), by unfold ouV; rw [hs.2.2.1]⟩, same_mvA (fun j u hj hn => ?_)⟩
    have := h (j + 1) u hj hn
    rw [show i + (j + 1) = i + 1 + j by omega] at this
    exact this
theorem inclV_perm {m : Nat} {Q : Nat → Nat} : ∀ (ws : List aE) (i : Nat) (vs : List aV), (inclV m Q i ws vs).Perm (vs ++ verB m Q i ws)
  | [], _, vs => by
    show vs.Perm (vs ++ [])
    rw [List.append_nil]
  | e :: ws, i, vs => by
    show (inclV m Q (i + 1) ws (insV (e.1, m, Q i, e.2.map List.length, true) vs)).Perm (vs ++ (e.1, m, Q i, e.2.map List.length, true) :: verB m Q (i + 1) ws)
    refine (inclV_perm ws (i + 1) _).trans ?_
    refine ((insV_perm _ vs).append_right _).trans ?_
    exact List.perm_middle.symm
theorem ver_toM {c : Nat → Int8} {m : Nat} {Q : Nat → Nat} : ∀ (ws : List aE) (i : Nat), (∀ j e l, (ws.map pfx)[j]? = some e → e.2 = some l → valB c (e.1, m, Q (i + j), e.2.map List.length, true) = l) → (verB m Q i (ws.map pfx)).map (toM c) = addM m ws
  | [], _, _ => rfl
  | e :: ws, i, h => by
    show toM c ((pfx e).1, m, Q i, (pfx e).2.map List.length, true) :: (verB m Q (i + 1) (ws.map pfx)).map (toM c) = (e.1, m, e.2) :: addM m ws
    rw [ver_toM ws (i + 1) (fun j x l hj hl => by
      have := h (j + 1) x l hj hl
      rw [show i + (j + 1) = i + 1 + j by omega] at this
      exact this)]
    congr 1
    obtain ⟨k, v⟩ := e
    cases v with
    | none => rfl
    | some l =>
      have := h 0 (pfx (k, some l)) l rfl rfl
      have hv : ∀ (c : Nat → Int8) (v : aV), toM c v = (v.1.tail, v.2.1, valV c v) := fun _ _ => rfl
      rw [hv, valV_of (Option.some_ne_none _)]
      show (k, m, some (valB c (0 :: k, m, Q i, some l.length, true))) = (k, m, some l)
      rw [show valB c (0 :: k, m, Q i, some l.length, true) = l from this]
/-- a change of the user's comes in on both sides -/
theorem RelU.incl {op : Nat → Bool} {sm : Nat → Nat} {c c' : Nat → Int8} {vs : List aV} {ms : List aMV} {m : Nat} {Q : Nat → Nat} {ws : List aE} (h : RelU op sm c vs ms) (h1 : OneV vs) (hm : ∀ v ∈ vs, v.2.1 < m) (hold : ∀ v ∈ vs, v.2.2.2.1 ≠ none → valB c' v = valB c v) (hnew : ∀ i e l, (ws.map pfx)[i]? = some e → e.2 = some l → valB c' (e.1, m, Q i, e.2.map List.length, true) = l) : RelU op sm c' (inclV m Q 0 (ws.map pfx) vs) (ms ++ addM m ws) := by
  obtain ⟨zk, hP, hz⟩ := rel_norm (h.same h1 (same_chip hold)) h1
  have hus : ∀ v ∈ verB m Q 0 (ws.map pfx), usV v = true ∧ v.2.1 = m := fun v hv => by
    obtain ⟨i, e, hi, ev⟩ := mem_verB.mp hv
    obtain ⟨e2, -, e3⟩ := List.mem_map.mp (List.mem_of_getElem? hi)
    refine ⟨?_, (verB_alone hv).2⟩
    rw [ev, ← e3]
    rfl
  refine ⟨fun v => zk v.1 v.2.1 && decide (v.2.1 < m), ?_, fun z hz1 hz2 hz3 => ?_⟩
  · refine ((((inclV_perm (ws.map pfx) 0 vs).filter _).map _).trans ?_)
    rw [List.filter_append, List.map_append]
    refine List.Perm.append ?_ ?_
    · rw [List.filter_congr (fun v hv => by rw [decide_eq_true (hm v hv), Bool.and_true] : ∀ v ∈ vs, (usV v && !(zk v.1 v.2.1 && decide (v.2.1 < m))) = (usV v && !(zk v.1 v.2.1)))]
      exact hP
    · have hn : (verB m Q 0 (ws.map pfx)).filter (fun v => usV v && !(zk v.1 v.2.1 && decide (v.2.1 < m))) = verB m Q 0 (ws.map pfx) := List.filter_eq_self.mpr (fun v hv => by
        show (usV v && !(zk v.1 v.2.1 && decide (v.2.1 < m))) = true
        rw [(hus v hv).1, (hus v hv).2, decide_eq_false (Nat.lt_irrefl m), Bool.and_false]; rfl)
      rw [hn, ver_toM ws 0 (fun j e l hj hl => by rw [Nat.zero_add]; exact hnew j e l hj hl)]
  · rw [Bool.and_eq_true, decide_eq_true_iff] at hz3
    rcases mem_incl.mp hz1 with q | q
    · have hzo := hz z q hz2 hz3.1
      refine ⟨hzo.1, hzo.2.1, fun v hv hk => ?_⟩
      rcases mem_incl.mp hv with r | r
      · exact hzo.2.2 v r hk
      · rw [(hus v r).2]; omega
    · rw [(hus z q).2] at hz3; omega
/-- a change of files leaves the user's versions alone -/
theorem RelU.files {op : Nat → Bool} {sm : Nat → Nat} {c c' : Nat → Int8} {vs : List aV} {ms : List aMV} {m : Nat} {Q : Nat → Nat} {ws : List aE} (h : RelU op sm c vs ms) (h1 : OneV vs) (hm : ∀ v ∈ vs, v.2.1 < m) (hold : ∀ v ∈ vs, v.2.2.2.1 ≠ none → valB c' v = valB c v) (hf : ∀ e ∈ ws, ¬ e.1.head? = some 0) : RelU op sm c' (inclV m Q 0 ws vs) ms := by
  obtain ⟨zk, hP, hz⟩ := rel_norm (h.same h1 (same_chip hold)) h1
  have hus : ∀ v ∈ verB m Q 0 ws, usV v = false := fun v hv => by
    obtain ⟨i, e, hi, ev⟩ := mem_verB.mp hv
    unfold usV
    rw [ev]
    exact decide_eq_false (hf e (List.mem_of_getElem? hi))
  refine ⟨fun v => zk v.1 v.2.1, ?_, fun z hz1 hz2 hz3 => ?_⟩
  · refine ((((inclV_perm ws 0 vs).filter _).map _).trans ?_)
    have hn : (verB m Q 0 ws).filter (fun v => usV v && !(zk v.1 v.2.1)) = [] := List.filter_eq_nil_iff.mpr (fun v hv => by rw [hus v hv]; exact Bool.noConfusion)
    rw [List.filter_append, List.map_append, hn, List.map_nil, List.append_nil]
    exact hP
  · rcases mem_incl.mp hz1 with q | q
    · have hzo := hz z q hz2 hz3
      refine ⟨hzo.1, hzo.2.1, fun v hv hk => ?_⟩
      rcases mem_incl.mp hv with r | r
      · exact hzo.2.2 v r hk
      · rw [(verB_alone r).2]
        have := hm z q
        omega
    · rw [hus z q] at hz2; exact Bool.noConfusion hz2
