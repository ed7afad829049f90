/-! ===== memory, tables and log agree behind every step; class; by hand ===== -/
theorem mem_verB {m : Nat} {Q : Nat → Nat} {v : aV} : ∀ {ws : List aE} {j : Nat}, v ∈ verB m Q j ws ↔ ∃ i e, ws[i]? = some e ∧ v = (e.1, m, Q (j + i), e.2.map List.length, true)
  | [], j => ⟨fun h => absurd h List.not_mem_nil, fun ⟨i, e, h, _⟩ => by cases h⟩
  | w :: ws, j => by
    rw [verB, List.mem_cons, mem_verB (ws := ws) (j := j + 1)]
    constructor
    · rintro (h | ⟨i, e, h1, h2⟩)
      · exact ⟨0, w, rfl, h⟩
      · exact ⟨i + 1, e, h1, by rw [h2, show j + 1 + i = j + (i + 1) by omega]⟩
    · rintro ⟨i, e, h1, h2⟩
      cases i with
      | zero =>
        have : w = e := Option.some.inj h1
        exact Or.inl (by rw [this]; exact h2)
      | succ i => exact Or.inr ⟨i, e, h1, by rw [h2, show j + 1 + i = j + (i + 1) by omega]⟩
theorem mem_incl {m : Nat} {Q : Nat → Nat} {ws : List aE} {vs : List aV} {w : aV} : w ∈ inclV m Q 0 ws vs ↔ w ∈ vs ∨ w ∈ verB m Q 0 ws := by
  rw [mem_verB]
  constructor
  · intro h
    rcases mem_inclV h with q | ⟨j, e, q1, q2⟩
    · exact Or.inl q
    · exact Or.inr ⟨j, e, q1, q2⟩
  · rintro (h | ⟨j, e, q1, q2⟩)
    · exact inclV_mem h
    · rw [q2]; exact inclV_new q1
theorem verB_pw {m : Nat} {Q : Nat → Nat} {ws : List aE} (h : OneW ws) (j : Nat) : (verB m Q j ws).Pairwise (fun a b => a.1 = b.1 → a.2.1 < b.2.1) := by
  induction ws generalizing j with
  | nil => exact List.Pairwise.nil
  | cons w ws ih =>
    refine List.pairwise_cons.mpr ⟨fun b hb hk => ?_, ih (fun i k e f h1 h2 h3 => ?_) (j + 1)⟩
    · obtain ⟨i, e, h1, h2⟩ := mem_verB.mp hb
      rw [h2] at hk
      have := h 0 (i + 1) w e rfl h1 hk
      omega
    · have := h (i + 1) (k + 1) e f h1 h2 h3
      omega
/-- a change that was stored comes into memory -/
theorem W.incl {vs : List aV} {es : List aT} {L : List aCh} {m a : Nat} {Q : Nat → Nat} {ws : List aE} (hT : WTab vs es) (hL : WLog vs es L) (h1 : OneW ws) (h40 : ws.length ≤ 40) (hv : ∀ v ∈ vs, v.2.1 < m) (he : ∀ e ∈ es, e.2.1 < m) (hl : ∀ u ∈ L.flatMap chV, u.2.1 < m) : WTab (inclV m Q 0 ws vs) es ∧ WLog (inclV m Q 0 ws vs) es (L ++ [(m, Q, ws, a)]) := by
  obtain ⟨a1, a2, a3⟩ := hT
  obtain ⟨b1, b2, b3, b4, b5⟩ := hL
  have hfm : (L ++ [(m, Q, ws, a)]).flatMap chV = L.flatMap chV ++ verB m Q 0 ws := by
    rw [List.flatMap_append, List.flatMap_cons, List.flatMap_nil, List.append_nil]
    rfl
  refine ⟨⟨fun v hv' hb => ?_, fun e he' v hv' hk => ?_, fun e he' hno => a3 e he' (fun v hv' => hno v (mem_incl.mpr (Or.inl hv')))⟩, fun x hx => ?_, ?_, fun u hu e he' => ?_, fun u hu hmx => ?_, fun v hv' hb => ?_⟩
  · rcases mem_incl.mp hv' with q | q
    · exact a1 v q hb
    · rw [(verB_alone q).1] at hb; exact Bool.noConfusion hb
  · rcases mem_incl.mp hv' with q | q
    · obtain ⟨u, hu, hue, hum⟩ := a2 e he' v q hk
      exact ⟨u, mem_incl.mpr (Or.inl hu), hue, hum⟩
    · exact ⟨v, hv', hk, by rw [(verB_alone q).2]; exact Nat.le_of_lt (he e he')⟩
  · rcases List.mem_append.mp hx with q | q
    · exact b1 x q
    · rw [List.mem_singleton.mp q]; exact h40
  · rw [hfm]
    refine List.pairwise_append.mpr ⟨b2, verB_pw h1 0, fun x hx y hy _ => ?_⟩
    rw [(verB_alone hy).2]
    exact hl x hx
  · rw [hfm] at hu
    rcases List.mem_append.mp hu with q | q
    · exact b3 u q e he'
    · rw [(verB_alone q).2]; exact he e he'
  · rw [hfm] at hu hmx
    rcases List.mem_append.mp hu with q | q
    · have hn := b4 u q (fun y hy => hmx y (List.mem_append.mpr (Or.inl hy)))
      refine ⟨mem_incl.mpr (Or.inl hn.1), fun w hw hk => ?_⟩
      rcases mem_incl.mp hw with r | r
      · exact hn.2 w r hk
      · exact hmx w (List.mem_append.mpr (Or.inr r)) hk
    · refine ⟨mem_incl.mpr (Or.inr q), fun w hw hk => ?_⟩
      rw [(verB_alone q).2]
      rcases mem_incl.mp hw with r | r
      · exact Nat.le_of_lt (hv w r)
      · rw [(verB_alone r).2]; exact Nat.le_refl _
  · rw [hfm]
    rcases mem_incl.mp hv' with q | q
    · exact List.mem_append.mpr (Or.inl (b5 v q hb))
    · exact List.mem_append.mpr (Or.inr q)
/-- a purge -/
theorem WLog.purge {op : Nat → Bool} {sm : Nat → Nat} {pr : Nat} {vs : List aV} {es : List aT} {L : List aCh} (hL : WLog vs es L) (hpr : ∀ u ∈ vs, u.2.1 ≤ pr) : WLog (vs.filter (keepS op sm pr (kmV vs))) es L := by
  obtain ⟨b1, b2, b3, b4, b5⟩ := hL
  refine ⟨b1, b2, b3, fun u hu hmx => ?_, fun v hv => b5 v (List.mem_filter.mp hv).1⟩
  have hn := b4 u hu hmx
  refine ⟨List.mem_filter.mpr ⟨hn.1, ?_⟩, fun w hw => hn.2 w (List.mem_filter.mp hw).1⟩
  cases hb : keepS op sm pr (kmV vs) u with
  | true => rfl
  | false =>
    have := (keep_out (hpr u hn.1) hn hb).2
    rw [chV_alone hu] at this
    exact Bool.noConfusion this
/-- no log is to be replayed -/
theorem WLog.none {vs : List aV} {es : List aT} (h : ∀ v ∈ vs, v.2.2.2.2 = false) : WLog vs es [] := ⟨fun x hx => absurd hx List.not_mem_nil, List.Pairwise.nil, fun u hu => absurd hu List.not_mem_nil, fun u hu => absurd hu List.not_mem_nil, fun v hv hb => by rw [h v hv] at hb; exact Bool.noConfusion hb⟩
theorem WLog.sub {vs : List aV} {es es' : List aT} {L : List aCh} (hL : WLog vs es L) (h : ∀ e ∈ es', e ∈ es) : WLog vs es' L := ⟨hL.1, hL.2.1, fun u hu e he => hL.2.2.1 u hu e (h e he), hL.2.2.2⟩
theorem told_alone {vs : List aV} : ∀ v ∈ vs.map toldV, v.2.2.2.2 = false := fun v hv => by
  obtain ⟨w, -, e⟩ := List.mem_map.mp hv
  rw [← e]
  rfl
theorem OneV.told {vs : List aV} (h : OneV vs) : OneV (vs.map toldV) := fun u hu v hv h1 h2 => by
  obtain ⟨a, ha, ea⟩ := List.mem_map.mp hu
  obtain ⟨b, hb, eb⟩ := List.mem_map.mp hv
  rw [← ea, ← eb] at h1 h2 ⊢
  rw [h a ha b hb h1 h2]
theorem OneV.filter {vs : List aV} {f : aV → Bool} (h : OneV vs) : OneV (vs.filter f) := fun u hu v hv => h u (List.mem_filter.mp hu).1 v (List.mem_filter.mp hv).1
theorem OneV.incl {vs : List aV} {m : Nat} {Q : Nat → Nat} {ws : List aE} (h : OneV vs) (h1 : OneW ws) (hv : ∀ v ∈ vs, v.2.1 < m) : OneV (inclV m Q 0 ws vs) := fun u hu v hv' e1 e2 => by
  rcases mem_incl.mp hu with q | q
  · rcases mem_incl.mp hv' with r | r
    · exact h u q v r e1 e2
    · have := hv u q
      have := (verB_alone r).2
      omega
  · rcases mem_incl.mp hv' with r | r
    · have := hv v r
      have := (verB_alone q).2
      omega
    · obtain ⟨i, x, x1, x2⟩ := mem_verB.mp q
      obtain ⟨j, y, y1, y2⟩ := mem_verB.mp r
      rw [x2, y2] at e1
      have hij := h1 i j x y x1 y1 e1
      rw [hij] at x1
      rw [x2, y2, hij, Option.some.inj (x1.symm.trans y1)]
/-- the whole of a spill: memory alone goes to a table, then a purge -/
theorem W.spill {op : Nat → Bool} {sm : Nat → Nat} {pr : Nat} {vs : List aV} {es : List aT} (hT : WTab vs es) (h1 : OneV vs) (hpr : ∀ u ∈ vs, u.2.1 ≤ pr) : WTab ((vs.map toldV).filter (keepS op sm pr (kmV (vs.map toldV)))) (aloneE vs ++ es) ∧ WLog ((vs.map toldV).filter (keepS op sm pr (kmV (vs.map toldV)))) (aloneE vs ++ es) [] := by
  have hp2 : ∀ u ∈ vs.map toldV, u.2.1 ≤ pr := fun u hu => by
    obtain ⟨a, ha, ea⟩ := List.mem_map.mp hu
    rw [← ea]
    exact hpr a ha
  exact ⟨(hT.spill h1).purge h1.told hp2, WLog.none (fun v hv => told_alone v (List.mem_filter.mp hv).1)⟩
/-- records are moved: memory alone knows where they are now -/
theorem WTab.move {vs : List aV} {es : List aT} {g : aV → aV} (hT : WTab vs es) (hg : ∀ v ∈ vs, (g v).1 = v.1 ∧ (g v).2.1 = v.2.1 ∧ ((g v).2.2.2.2 = true ∨ g v = v)) : WTab (vs.map g) es := by
  obtain ⟨a1, a2, a3⟩ := hT
  refine ⟨fun v hv hb => ?_, fun e he v hv hk => ?_, fun e he hno => a3 e he (fun v hv hk => hno (g v) (List.mem_map.mpr ⟨v, hv, rfl⟩) ((hg v hv).1.trans hk))⟩
  · obtain ⟨w, hw, e⟩ := List.mem_map.mp hv
    rcases (hg w hw).2.2 with q | q
    · rw [← e, q] at hb; exact Bool.noConfusion hb
    · rw [q] at e
      rw [← e] at hb ⊢
      exact a1 w hw hb
  · obtain ⟨w, hw, e1⟩ := List.mem_map.mp hv
    obtain ⟨u, hu, hue, hum⟩ := a2 e he w hw (by rw [← hk, ← e1]; exact (hg w hw).1.symm)
    exact ⟨g u, List.mem_map.mpr ⟨u, hu, rfl⟩, (hg u hu).1.trans hue, by rw [(hg u hu).2.1]; exact hum⟩
