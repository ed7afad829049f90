/-! ===== what is needed behind a change: versions put in, one by one; pure; by hand ===== -/
/-- a change's versions put in; pl: where each is stored -/
def inclV (m : Nat) (pl : Nat → Nat) : Nat → List aE → List aV → List aV
  | _, [], vs => vs
  | i, e :: ws, vs => inclV m pl (i + 1) ws (insV (e.1, m, pl i, e.2.map List.length, true) vs)
theorem inclV_snoc {m : Nat} {pl : Nat → Nat} {e : aE} : ∀ (ws : List aE) (i : Nat) (vs : List aV), inclV m pl i (ws ++ [e]) vs = insV (e.1, m, pl (i + ws.length), e.2.map List.length, true) (inclV m pl i ws vs)
  | [], i, vs => rfl
  | w :: ws, i, vs => by
    show inclV m pl (i + 1) (ws ++ [e]) _ = _
    rw [inclV_snoc ws (i + 1)]
    show insV (e.1, m, pl (i + 1 + ws.length), _, true) _ = insV (e.1, m, pl (i + (ws.length + 1)), _, true) _
    rw [show i + 1 + ws.length = i + (ws.length + 1) by omega]
    rfl
theorem insV_perm (v : aV) : ∀ (vs : List aV), (insV v vs).Perm (v :: vs)
  | [] => List.Perm.refl _
  | w :: t => by
    rw [insV]
    split
    · exact ((insV_perm v t).cons w).trans (List.Perm.swap v w t)
    · exact List.Perm.refl _
theorem mem_insV {v w : aV} {vs : List aV} : w ∈ insV v vs ↔ w = v ∨ w ∈ vs := by
  rw [(insV_perm v vs).mem_iff, List.mem_cons]
theorem mem_inclV {m : Nat} {pl : Nat → Nat} {w : aV} : ∀ {ws : List aE} {i : Nat} {vs : List aV}, w ∈ inclV m pl i ws vs → w ∈ vs ∨ ∃ j e, ws[j]? = some e ∧ w = (e.1, m, pl (i + j), e.2.map List.length, true)
  | [], i, vs, h => Or.inl h
  | e :: ws, i, vs, h => by
    rcases mem_inclV (ws := ws) (i := i + 1) h with h | ⟨j, e2, h1, h2⟩
    · rcases mem_insV.mp h with h | h
      · exact Or.inr ⟨0, e, rfl, h⟩
      · exact Or.inl h
    · exact Or.inr ⟨j + 1, e2, h1, by rw [h2, show i + 1 + j = i + (j + 1) by omega]⟩
theorem inclV_mem {m : Nat} {pl : Nat → Nat} {w : aV} : ∀ {ws : List aE} {i : Nat} {vs : List aV}, w ∈ vs → w ∈ inclV m pl i ws vs
  | [], i, vs, h => h
  | e :: ws, i, vs, h => inclV_mem (ws := ws) (mem_insV.mpr (Or.inr h))
theorem inclV_new {m : Nat} {pl : Nat → Nat} : ∀ {ws : List aE} {i j : Nat} {e : aE} {vs : List aV}, ws[j]? = some e → (e.1, m, pl (i + j), e.2.map List.length, true) ∈ inclV m pl i ws vs
  | [], _, _, _, _, h => by simp at h
  | w :: ws, i, 0, e, vs, h => by
    have h1 : w = e := Option.some.inj h
    rw [← h1]
    exact inclV_mem (ws := ws) (i := i + 1) (vs := insV (w.1, m, pl i, w.2.map List.length, true) vs) (mem_insV.mpr (Or.inl rfl))
  | w :: ws, i, j + 1, e, vs, h => by
    have := inclV_new (m := m) (pl := pl) (ws := ws) (i := i + 1) (j := j) (e := e) (vs := insV (w.1, m, pl i, w.2.map List.length, true) vs) h
    rw [show i + 1 + j = i + (j + 1) by omega] at this
    exact this
/-- what a version counts -/
def cntN (op : Nat → Bool) (sm : Nat → Nat) (x : Int32) (pr : Nat) (L : List (List Nat × Nat)) (v : aV) : Nat := if needS op sm x pr L (usV v) (ouV v) v.1 v.2.1 then wgV v else 0
theorem sumN_eq {op : Nat → Bool} {sm : Nat → Nat} {x : Int32} {pr : Nat} {L : List (List Nat × Nat)} {vs : List aV} : sumN op sm x pr L vs = (vs.map (cntN op sm x pr L)).sum := rfl
theorem km_ins {v0 : aV} {vs : List aV} {k : List Nat} {b : Nat} : (k, b) ∈ kmV (insV v0 vs) ↔ (k = v0.1 ∧ b = v0.2.1) ∨ (k, b) ∈ kmV vs := by
  rw [mem_km, mem_km]
  constructor
  · rintro ⟨v, hv, e1, e2⟩
    rcases mem_insV.mp hv with h | h
    · exact Or.inl ⟨by rw [← e1, h], by rw [← e2, h]⟩
    · exact Or.inr ⟨v, h, e1, e2⟩
  · rintro (⟨e1, e2⟩ | ⟨v, hv, e1, e2⟩)
    · exact ⟨v0, mem_insV.mpr (Or.inl rfl), e1.symm, e2.symm⟩
    · exact ⟨v, mem_insV.mpr (Or.inr hv), e1, e2⟩
theorem stK_other {L L' : List (List Nat × Nat)} {k : List Nat} {a m : Nat} (h : ∀ b, a < b → b ≤ m → ((k, b) ∈ L ↔ (k, b) ∈ L')) : stK L k a m = stK L' k a m := by
  rw [Bool.eq_iff_iff, stK_iff, stK_iff]
  refine and_congr_right (fun _ => ?_)
  constructor
  · intro h2 b hb hab
    refine Nat.lt_of_not_le (fun hbm => ?_)
    have := h2 b ((h b hab hbm).mpr hb) hab
    omega
  · intro h2 b hb hab
    refine Nat.lt_of_not_le (fun hbm => ?_)
    have := h2 b ((h b hab hbm).mp hb) hab
    omega
/-- of other keys, and of versions that are not the newest, nothing changes -/
theorem need_other {op : Nat → Bool} {sm : Nat → Nat} {x : Int32} {pr : Nat} {vs : List aV} {v0 w : aV} (hm : v0.2.1 = pr) (hlt : ∀ v ∈ vs, v.1 = v0.1 → v.2.1 < pr) (hw : w.1 = v0.1 → ∃ u ∈ vs, u.1 = w.1 ∧ w.2.1 < u.2.1) : cntN op sm x pr (kmV (insV v0 vs)) w = cntN op sm x pr (kmV vs) w := by
  have key : ∀ m, stK (kmV (insV v0 vs)) w.1 w.2.1 m = stK (kmV vs) w.1 w.2.1 m := by
    intro m
    rw [Bool.eq_iff_iff, stK_iff, stK_iff]
    refine and_congr_right (fun _ => ?_)
    constructor
    · intro h b hb hab
      exact h b (km_ins.mpr (Or.inr hb)) hab
    · intro h b hb hab
      rcases km_ins.mp hb with ⟨e1, e2⟩ | hb
      · obtain ⟨u, hu, hu1, hu2⟩ := hw e1
        have h1 := h u.2.1 (mem_km.mpr ⟨u, hu, hu1, rfl⟩) hu2
        have h2 := hlt u hu (hu1.trans e1)
        omega
      · exact h b hb hab
  unfold cntN needS
  rw [key pr, opA_congr (fun t _ _ => key (sm t))]
theorem map_other {α : Type} {f g : α → Nat} : ∀ {l : List α}, (∀ a ∈ l, f a = g a) → (l.map f).sum = (l.map g).sum
  | [], _ => rfl
  | a :: l, h => by
    rw [List.map_cons, List.map_cons, List.sum_cons, List.sum_cons, h a List.mem_cons_self, map_other (fun b hb => h b (List.mem_cons_of_mem _ hb))]
theorem map_one {α : Type} {f g : α → Nat} : ∀ {l : List α} {s : α}, l.Nodup → s ∈ l → (∀ a ∈ l, a ≠ s → f a = g a) → (l.map f).sum + g s = (l.map g).sum + f s
  | [], _, _, h, _ => absurd h List.not_mem_nil
  | a :: l, s, hn, hs, h => by
    rw [List.map_cons, List.map_cons, List.sum_cons, List.sum_cons]
    rw [List.nodup_cons] at hn
    rcases List.mem_cons.mp hs with e | e
    · rw [map_other (f := f) (g := g) (l := l) (fun b hb => h b (List.mem_cons_of_mem _ hb) (fun e2 => hn.1 (by rw [← e, ← e2]; exact hb))), e]
      omega
    · have h1 := map_one hn.2 e (fun b hb => h b (List.mem_cons_of_mem _ hb))
      rw [h a List.mem_cons_self (fun e2 => hn.1 (by rw [e2]; exact e))]
      omega
theorem sum_ins {f : aV → Nat} {v0 : aV} {vs : List aV} : ((insV v0 vs).map f).sum = f v0 + (vs.map f).sum := by
  rw [perm_sum ((insV_perm v0 vs).map f), List.map_cons, List.sum_cons]
/-- what the new one counts -/
theorem need_new {op : Nat → Bool} {sm : Nat → Nat} {x : Int32} {pr : Nat} {vs : List aV} {v0 : aV} (hm : v0.2.1 = pr) (hlt : ∀ v ∈ vs, v.1 = v0.1 → v.2.1 < pr) : cntN op sm x pr (kmV (insV v0 vs)) v0 = if (!ouV v0 || (usV v0 && aB op sm pr x)) = true then wgV v0 else 0 := by
  have hst : stK (kmV (insV v0 vs)) v0.1 v0.2.1 pr = true := stK_iff.mpr ⟨by omega, fun b hb hab => by
    rcases km_ins.mp hb with ⟨_, e2⟩ | hb
    · omega
    · obtain ⟨u, hu, e1, e2⟩ := mem_km.mp hb
      have := hlt u hu e1
      omega⟩
  unfold cntN needS
  rw [hst]
  have hB : opA op x (fun t => decide (sm t < v0.2.1)) 8 = aB op sm pr x := by rw [hm]; rfl
  rw [hB]
  cases usV v0 <;> cases ouV v0 <;> cases aB op sm pr x <;> rfl
/-- what the newest of its key counts, before and behind -/
theorem need_old {op : Nat → Bool} {sm : Nat → Nat} {x : Int32} {pr : Nat} {vs : List aV} {v0 s : aV} (hm : v0.2.1 = pr) (hs : s ∈ vs) (hk : s.1 = v0.1) (hlt : ∀ v ∈ vs, v.1 = v0.1 → v.2.1 < pr) (hnw : ∀ v ∈ vs, v.1 = v0.1 → v.2.1 ≤ s.2.1) : cntN op sm x pr (kmV vs) s = (if isN op sm (usV s) (ouV s) s.2.1 true 0 x = true then wgV s else 0) ∧ cntN op sm x pr (kmV (insV v0 vs)) s = (if isN op sm (usV s) (ouV s) s.2.1 false pr x = true then wgV s else 0) := by
  have h0 := hlt s hs hk
  have hst : stK (kmV vs) s.1 s.2.1 pr = true := stK_iff.mpr ⟨by omega, fun b hb hab => by
    obtain ⟨u, hu, e1, e2⟩ := mem_km.mp hb
    have := hnw u hu (e1.trans hk)
    omega⟩
  have hst2 : stK (kmV (insV v0 vs)) s.1 s.2.1 pr = false := by
    cases hc : stK (kmV (insV v0 vs)) s.1 s.2.1 pr with
    | false => rfl
    | true =>
      have := (stK_iff.mp hc).2 pr (km_ins.mpr (Or.inl ⟨hk, hm.symm⟩)) h0
      omega
  have hW : opA op x (fun t => stK (kmV (insV v0 vs)) s.1 s.2.1 (sm t)) 8 = aW op sm s.2.1 pr x := by
    refine opA_congr (fun t _ _ => ?_)
    rw [Bool.eq_iff_iff, stK_iff, Bool.and_eq_true, decide_eq_true_iff, decide_eq_true_iff]
    refine and_congr_right (fun _ => ?_)
    constructor
    · intro h
      exact h pr (km_ins.mpr (Or.inl ⟨hk, hm.symm⟩)) h0
    · intro h b hb hab
      rcases km_ins.mp hb with ⟨_, e2⟩ | hb
      · omega
      · obtain ⟨u, hu, e1, e2⟩ := mem_km.mp hb
        have := hnw u hu (e1.trans hk)
        omega
  have hB : opA op x (fun t => decide (sm t < s.2.1)) 8 = aB op sm s.2.1 x := rfl
  unfold cntN needS isN
  rw [hst, hst2, hW, hB]
  constructor
  · cases usV s <;> cases ouV s <;> cases aB op sm s.2.1 x <;> simp
  · cases usV s <;> cases ouV s <;> cases aB op sm s.2.1 x <;> cases aW op sm s.2.1 pr x <;> simp
theorem OneV.nodup_of {vs : List aV} (h : vs.Pairwise (fun u v => ¬ (u.1 = v.1 ∧ u.2.1 = v.2.1))) : vs.Nodup := by
  refine h.imp (fun {a b} hab e => hab ?_)
  rw [e]
  exact ⟨rfl, rfl⟩
/-- a version put in, where none of its key stands: the sum -/
theorem sumN_ins0 {op : Nat → Bool} {sm : Nat → Nat} {x : Int32} {pr : Nat} {vs : List aV} {v0 : aV} (hm : v0.2.1 = pr) (hno : ∀ v ∈ vs, ¬ v.1 = v0.1) : sumN op sm x pr (kmV (insV v0 vs)) (insV v0 vs) = sumN op sm x pr (kmV vs) vs + (if (!ouV v0 || (usV v0 && aB op sm pr x)) = true then wgV v0 else 0) := by
  rw [sumN_eq, sumN_eq, sum_ins, need_new hm (fun v hv e => absurd e (hno v hv)), map_other (g := cntN op sm x pr (kmV vs)) (fun w hw => need_other hm (fun v hv e => absurd e (hno v hv)) (fun e => absurd e (hno w hw)))]
  omega
/-- a version put in, behind the newest of its key: the sum -/
theorem sumN_ins1 {op : Nat → Bool} {sm : Nat → Nat} {x : Int32} {pr : Nat} {vs : List aV} {v0 s : aV} (hn : vs.Nodup) (hm : v0.2.1 = pr) (hs : s ∈ vs) (hk : s.1 = v0.1) (hlt : ∀ v ∈ vs, v.1 = v0.1 → v.2.1 < pr) (hnw : ∀ v ∈ vs, v.1 = v0.1 → v ≠ s → v.2.1 < s.2.1) : sumN op sm x pr (kmV (insV v0 vs)) (insV v0 vs) + (if isN op sm (usV s) (ouV s) s.2.1 true 0 x = true then wgV s else 0) = sumN op sm x pr (kmV vs) vs + (if isN op sm (usV s) (ouV s) s.2.1 false pr x = true then wgV s else 0) + (if (!ouV v0 || (usV v0 && aB op sm pr x)) = true then wgV v0 else 0) := by
  have hle : ∀ v ∈ vs, v.1 = v0.1 → v.2.1 ≤ s.2.1 := fun v hv e => by
    by_cases e2 : v = s
    · rw [e2]; exact Nat.le_refl _
    · exact Nat.le_of_lt (hnw v hv e e2)
  obtain ⟨n1, n2⟩ := need_old (op := op) (sm := sm) (x := x) hm hs hk hlt hle
  have h1 := map_one (f := cntN op sm x pr (kmV (insV v0 vs))) (g := cntN op sm x pr (kmV vs)) hn hs (fun w hw e => need_other hm hlt (fun e2 => ⟨s, hs, hk.trans e2.symm, hnw w hw e2 e⟩))
  rw [sumN_eq, sumN_eq, sum_ins, need_new hm hlt, ← n1, ← n2]
  omega
/-- it is among what is counted -/
theorem sumN_ge {op : Nat → Bool} {sm : Nat → Nat} {x : Int32} {pr : Nat} {L : List (List Nat × Nat)} : ∀ {vs : List aV} {s : aV}, s ∈ vs → cntN op sm x pr L s ≤ sumN op sm x pr L vs
  | [], _, h => absurd h List.not_mem_nil
  | a :: l, s, h => by
    rw [sumN_eq, List.map_cons, List.sum_cons]
    rcases List.mem_cons.mp h with e | e
    · rw [e]; exact Nat.le_add_right _ _
    · have := sumN_ge (op := op) (sm := sm) (x := x) (pr := pr) (L := L) e
      rw [sumN_eq] at this
      omega
