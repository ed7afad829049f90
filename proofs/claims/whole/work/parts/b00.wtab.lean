/-! ===== what the tables tell and what memory knows; class; by hand ===== -/
/-- the newest version of its key -/
def NwV (vs : List aV) (v : aV) : Prop := v ∈ vs ∧ ∀ u ∈ vs, u.1 = v.1 → u.2.1 ≤ v.2.1
/-- the first entry of its key and moment -/
def FstE (es : List aT) (e : aT) : Prop := ∃ l1 l2, es = l1 ++ e :: l2 ∧ ∀ x ∈ l1, ¬ (x.1 = e.1 ∧ x.2.1 = e.2.1)
/-- the entry that wins of its key: the newest, of those the first -/
def WinE (es : List aT) (e : aT) : Prop := FstE es e ∧ ∀ x ∈ es, x.1 = e.1 → x.2.1 ≤ e.2.1
/-- tables and memory agree -/
def WTab (vs : List aV) (es : List aT) : Prop := (∀ v ∈ vs, v.2.2.2.2 = false → FstE es (entV v)) ∧ (∀ e ∈ es, ∀ v ∈ vs, v.1 = e.1 → ∃ u ∈ vs, u.1 = e.1 ∧ e.2.1 ≤ u.2.1) ∧ ∀ e, WinE es e → (∀ v ∈ vs, ¬ v.1 = e.1) → e.2.2.2 = none
theorem FstE.mem {es : List aT} {e : aT} (h : FstE es e) : e ∈ es := by
  obtain ⟨l1, l2, h1, h2⟩ := h
  rw [h1]
  exact List.mem_append.mpr (Or.inr List.mem_cons_self)
theorem FstE.one {es : List aT} {e f : aT} (h : FstE es e) (h' : FstE es f) (h1 : e.1 = f.1) (h2 : e.2.1 = f.2.1) : e = f := by
  obtain ⟨l1, l2, a1, a2⟩ := h
  obtain ⟨m1, m2, b1, b2⟩ := h'
  induction l1 generalizing m1 es with
  | nil =>
    cases m1 with
    | nil =>
      rw [a1] at b1
      exact (List.cons.inj b1).1
    | cons y t =>
      rw [a1] at b1
      have e1 : e = y := (List.cons.inj b1).1
      exact absurd ⟨by rw [← e1]; exact h1, by rw [← e1]; exact h2⟩ (b2 y List.mem_cons_self)
  | cons x l ih =>
    cases m1 with
    | nil =>
      rw [a1] at b1
      have e1 : x = f := (List.cons.inj b1).1
      exact absurd ⟨by rw [e1]; exact h1.symm, by rw [e1]; exact h2.symm⟩ (a2 x List.mem_cons_self)
    | cons y t =>
      rw [a1] at b1
      exact ih (es := l ++ e :: l2) rfl (fun z hz => a2 z (List.mem_cons_of_mem _ hz)) t (List.cons.inj b1).2 (fun z hz => b2 z (List.mem_cons_of_mem _ hz))
theorem FstE.left {l es : List aT} {e : aT} (h : FstE l e) : FstE (l ++ es) e := by
  obtain ⟨l1, l2, h1, h2⟩ := h
  exact ⟨l1, l2 ++ es, by rw [h1, List.append_assoc, List.cons_append], h2⟩
theorem FstE.right {l es : List aT} {e : aT} (h : FstE es e) (hl : ∀ x ∈ l, ¬ (x.1 = e.1 ∧ x.2.1 = e.2.1)) : FstE (l ++ es) e := by
  obtain ⟨l1, l2, h1, h2⟩ := h
  exact ⟨l ++ l1, l2, by rw [h1, List.append_assoc], fun x hx => (List.mem_append.mp hx).elim (hl x) (h2 x)⟩
theorem fst_of {es : List aT} {e : aT} (h : e ∈ es) (h1 : ∀ x ∈ es, x.1 = e.1 → x.2.1 = e.2.1 → x = e) : FstE es e := by
  induction es with
  | nil => exact absurd h (List.not_mem_nil)
  | cons x t ih =>
    by_cases hx : x.1 = e.1 ∧ x.2.1 = e.2.1
    · have := h1 x List.mem_cons_self hx.1 hx.2
      exact ⟨[], t, by rw [this]; rfl, fun y hy => absurd hy List.not_mem_nil⟩
    · have ht : e ∈ t := by
        rcases List.mem_cons.mp h with e1 | e1
        · exact absurd ⟨by rw [e1], by rw [e1]⟩ hx
        · exact e1
      exact FstE.right (l := [x]) (ih ht (fun y hy => h1 y (List.mem_cons_of_mem _ hy))) (fun y hy => by rw [List.mem_singleton.mp hy]; exact hx)
theorem FstE.cut {l es : List aT} {e : aT} (h : FstE (l ++ es) e) (hl : ∀ x ∈ l, ¬ (x.1 = e.1 ∧ x.2.1 = e.2.1)) : FstE es e := by
  induction l with
  | nil => exact h
  | cons x t ih =>
    refine ih ?_ (fun y hy => hl y (List.mem_cons_of_mem _ hy))
    obtain ⟨l1, l2, h1, h2⟩ := h
    cases l1 with
    | nil => exact absurd ⟨congrArg (fun z => z.1) (List.cons.inj h1).1, congrArg (fun z => z.2.1) (List.cons.inj h1).1⟩ (hl x List.mem_cons_self)
    | cons y m => exact ⟨m, l2, (List.cons.inj h1).2, fun z hz => h2 z (List.mem_cons_of_mem _ hz)⟩
/-- in each list some first entry has the key and the moment of any other -/
theorem fst_ex {es : List aT} {e : aT} (h : e ∈ es) : ∃ f, FstE es f ∧ f.1 = e.1 ∧ f.2.1 = e.2.1 := by
  induction es with
  | nil => exact absurd h List.not_mem_nil
  | cons x t ih =>
    by_cases hx : x.1 = e.1 ∧ x.2.1 = e.2.1
    · exact ⟨x, ⟨[], t, rfl, fun y hy => absurd hy List.not_mem_nil⟩, hx.1, hx.2⟩
    · have ht : e ∈ t := by
        rcases List.mem_cons.mp h with e1 | e1
        · exact absurd ⟨by rw [e1], by rw [e1]⟩ hx
        · exact e1
      obtain ⟨f, f1, f2, f3⟩ := ih ht
      exact ⟨f, FstE.right (l := [x]) f1 (fun y hy => by rw [List.mem_singleton.mp hy, f2, f3]; exact hx), f2, f3⟩
/-- of each key that has entries one wins -/
theorem max_ex {α : Type} (P : α → Prop) (m : α → Nat) : ∀ (l : List α), (∃ x ∈ l, P x) → ∃ x ∈ l, P x ∧ ∀ y ∈ l, P y → m y ≤ m x
  | [], h => by obtain ⟨x, hx, -⟩ := h; exact absurd hx List.not_mem_nil
  | a :: t, h => by
    by_cases ht : ∃ x ∈ t, P x
    · obtain ⟨x, x1, x2, x3⟩ := max_ex P m t ht
      by_cases ha : P a ∧ m x < m a
      · exact ⟨a, List.mem_cons_self, ha.1, fun y hy py => by
          rcases List.mem_cons.mp hy with e | e
          · rw [e]; exact Nat.le_refl _
          · have := x3 y e py; omega⟩
      · exact ⟨x, List.mem_cons_of_mem _ x1, x2, fun y hy py => by
          rcases List.mem_cons.mp hy with e | e
          · rw [e] at py ⊢; exact Nat.le_of_not_lt (fun q => ha ⟨py, q⟩)
          · exact x3 y e py⟩
    · obtain ⟨x, hx, px⟩ := h
      rcases List.mem_cons.mp hx with e | e
      · rw [e] at px
        exact ⟨a, List.mem_cons_self, px, fun y hy py => by
          rcases List.mem_cons.mp hy with e | e
          · rw [e]; exact Nat.le_refl _
          · exact absurd ⟨y, e, py⟩ ht⟩
      · exact absurd ⟨x, e, px⟩ ht
theorem win_ex {es : List aT} {e : aT} (h : e ∈ es) : ∃ f, WinE es f ∧ f.1 = e.1 ∧ e.2.1 ≤ f.2.1 := by
  obtain ⟨x, x1, x2, x3⟩ := max_ex (fun x : aT => x.1 = e.1) (fun x => x.2.1) es ⟨e, h, rfl⟩
  obtain ⟨f, f1, f2, f3⟩ := fst_ex x1
  exact ⟨f, ⟨f1, fun y hy e1 => by rw [f3]; exact x3 y hy (e1.trans (f2.trans x2))⟩, f2.trans x2, by rw [f3]; exact x3 e h rfl⟩
theorem nw_ex {vs : List aV} {v : aV} (h : v ∈ vs) : ∃ w, NwV vs w ∧ w.1 = v.1 ∧ v.2.1 ≤ w.2.1 := by
  obtain ⟨x, x1, x2, x3⟩ := max_ex (fun x : aV => x.1 = v.1) (fun x => x.2.1) vs ⟨v, h, rfl⟩
  exact ⟨x, ⟨x1, fun u hu e => x3 u hu (e.trans x2)⟩, x2, x3 v h rfl⟩
theorem WinE.one {es : List aT} {e f : aT} (h : WinE es e) (h' : WinE es f) (h1 : e.1 = f.1) : e = f := h.1.one h'.1 h1 (Nat.le_antisymm (h'.2 e h.1.mem h1) (h.2 f h'.1.mem h1.symm))
theorem entV_told {v : aV} : entV (toldV v) = entV v := rfl
theorem mem_alone {vs : List aV} {e : aT} : e ∈ aloneE vs ↔ ∃ v ∈ vs, v.2.2.2.2 = true ∧ entV v = e := by
  unfold aloneE
  rw [List.mem_map]
  constructor
  · rintro ⟨v, h1, h2⟩
    exact ⟨v, (List.mem_filter.mp h1).1, (List.mem_filter.mp h1).2, h2⟩
  · rintro ⟨v, h1, h2, h3⟩
    exact ⟨v, List.mem_filter.mpr ⟨h1, h2⟩, h3⟩
/-- what was known in memory alone goes to a table in front -/
theorem WTab.spill {vs : List aV} {es : List aT} (h : WTab vs es) (h1 : OneV vs) : WTab (vs.map toldV) (aloneE vs ++ es) := by
  obtain ⟨a1, a2, a3⟩ := h
  refine ⟨fun v' hv' _ => ?_, fun e he v' hv' hk => ?_, fun e he hno => ?_⟩
  · obtain ⟨v, hv, e1⟩ := List.mem_map.mp hv'
    rw [← e1, entV_told]
    cases hb : v.2.2.2.2 with
    | true =>
      refine FstE.left (fst_of (mem_alone.mpr ⟨v, hv, hb, rfl⟩) (fun x hx k1 k2 => ?_))
      obtain ⟨u, hu, -, hue⟩ := mem_alone.mp hx
      rw [← hue] at k1 k2 ⊢
      rw [h1 u hu v hv k1 k2]
    | false =>
      refine FstE.right (a1 v hv hb) (fun x hx hk => ?_)
      obtain ⟨u, hu, hub, hue⟩ := mem_alone.mp hx
      rw [← hue] at hk
      rw [h1 u hu v hv hk.1 hk.2] at hub
      rw [hb] at hub
      exact Bool.noConfusion hub
  · obtain ⟨v, hv, e1⟩ := List.mem_map.mp hv'
    rcases List.mem_append.mp he with h2 | h2
    · obtain ⟨u, hu, -, hue⟩ := mem_alone.mp h2
      exact ⟨toldV u, List.mem_map.mpr ⟨u, hu, rfl⟩, by rw [← hue]; rfl, by rw [← hue]; exact Nat.le_refl _⟩
    · obtain ⟨u, hu, hue, hum⟩ := a2 e h2 v hv (by rw [← e1] at hk; exact hk)
      exact ⟨toldV u, List.mem_map.mpr ⟨u, hu, rfl⟩, hue, hum⟩
  · have hno2 : ∀ v ∈ vs, ¬ v.1 = e.1 := fun v hv => hno (toldV v) (List.mem_map.mpr ⟨v, hv, rfl⟩)
    refine a3 e ⟨he.1.cut (fun x hx hk => ?_), fun x hx => he.2 x (List.mem_append.mpr (Or.inr hx))⟩ hno2
    obtain ⟨u, hu, -, hue⟩ := mem_alone.mp hx
    rw [← hue] at hk
    exact hno2 u hu hk.1
theorem nw_st {vs : List aV} {w : aV} {pr : Nat} (h : NwV vs w) (hpr : w.2.1 ≤ pr) : stK (kmV vs) w.1 w.2.1 pr = true := by
  rw [stK_iff]
  refine ⟨hpr, fun b hb hlt => ?_⟩
  obtain ⟨v, hv, e1, e2⟩ := mem_km.mp hb
  have := h.2 v hv e1
  omega
/-- a purge that keeps a version keeps the newest of its key -/
theorem keep_nw {op : Nat → Bool} {sm : Nat → Nat} {pr : Nat} {vs : List aV} {v w : aV} (h1 : OneV vs) (hpr : ∀ u ∈ vs, u.2.1 ≤ pr) (hv : v ∈ vs) (hk : keepS op sm pr (kmV vs) v = true) (hw : NwV vs w) (he : w.1 = v.1) : keepS op sm pr (kmV vs) w = true := by
  have hs := nw_st hw (hpr w hw.1)
  by_cases hm : v.2.1 = w.2.1
  · rw [← h1 v hv w hw.1 he.symm hm]
    exact hk
  · have hlt : v.2.1 < w.2.1 := by have := hw.2 v hv he.symm; omega
    have hns : stK (kmV vs) v.1 v.2.1 pr = false := by
      cases hb : stK (kmV vs) v.1 v.2.1 pr with
      | false => rfl
      | true =>
        have := (stK_iff.mp hb).2 w.2.1 (mem_km.mpr ⟨w, hw.1, he, rfl⟩) hlt
        have := hpr w hw.1
        omega
    have hus : usV w = usV v := by unfold usV; rw [he]
    unfold keepS needS at hk ⊢
    rw [hns] at hk
    rw [hs, hus]
    cases hu : usV v with
    | false =>
      rw [hu, if_pos rfl, Bool.false_and, Bool.false_and, Bool.false_and, Bool.or_false] at hk
      exact Bool.noConfusion hk
    | true =>
      rw [hu] at hk
      rw [if_neg (by decide), Bool.false_and, Bool.false_and, Bool.or_false, Bool.false_or, Bool.and_eq_true] at hk
      obtain ⟨t, t1, t2, t3, t4⟩ := opA_ex.mp hk.2
      have t5 := stK_iff.mp t4
      have t6 := t5.2 w.2.1 (mem_km.mpr ⟨w, hw.1, he, rfl⟩) hlt
      have hA : opA op (-1) (fun t => decide (sm t < w.2.1)) 8 = true := opA_ex.mpr ⟨t, t1, t2, t3, decide_eq_true t6⟩
      rw [if_neg (by decide), hA]
      cases ouV w <;> rfl
/-- the newest of a key goes only if it is one that was taken out, and a table tells so -/
theorem keep_out {op : Nat → Bool} {sm : Nat → Nat} {pr : Nat} {vs : List aV} {w : aV} (hpr : w.2.1 ≤ pr) (hw : NwV vs w) (hk : keepS op sm pr (kmV vs) w = false) : w.2.2.2.1 = none ∧ w.2.2.2.2 = false := by
  have hs := nw_st hw hpr
  unfold keepS needS at hk
  rw [hs, Bool.or_eq_false_iff, Bool.true_and] at hk
  have ho : ouV w = true := by
    cases ho : ouV w with
    | true => rfl
    | false =>
      rw [ho] at hk
      have h1 := hk.1
      cases hu : usV w with
      | false => rw [hu, if_pos rfl] at h1; exact Bool.noConfusion h1
      | true => rw [hu] at h1; exact absurd h1 (by rw [if_neg (by decide)]; exact Bool.noConfusion)
  refine ⟨of_decide_eq_true ho, ?_⟩
  have h2 := hk.2
  rw [ho, Bool.and_true] at h2
  exact h2
/-- a purge -/
theorem WTab.purge {op : Nat → Bool} {sm : Nat → Nat} {pr : Nat} {vs : List aV} {es : List aT} (h : WTab vs es) (h1 : OneV vs) (hpr : ∀ u ∈ vs, u.2.1 ≤ pr) : WTab (vs.filter (keepS op sm pr (kmV vs))) es := by
  obtain ⟨a1, a2, a3⟩ := h
  refine ⟨fun v hv => a1 v (List.mem_filter.mp hv).1, fun e he v hv hk => ?_, fun e he hno => ?_⟩
  · obtain ⟨hv1, hv2⟩ := List.mem_filter.mp hv
    obtain ⟨u, hu, hue, hum⟩ := a2 e he v hv1 hk
    obtain ⟨w, hw, hwe, hwm⟩ := nw_ex hu
    exact ⟨w, List.mem_filter.mpr ⟨hw.1, keep_nw h1 hpr hv1 hv2 hw (hwe.trans (hue.trans hk.symm))⟩, hwe.trans hue, by omega⟩
  · by_cases hex : ∃ v ∈ vs, v.1 = e.1
    · obtain ⟨v, hv, hve⟩ := hex
      obtain ⟨w, hw, hwe, -⟩ := nw_ex hv
      have hkf : keepS op sm pr (kmV vs) w = false := by
        cases hb : keepS op sm pr (kmV vs) w with
        | false => rfl
        | true => exact absurd (hwe.trans hve) (hno w (List.mem_filter.mpr ⟨hw.1, hb⟩))
      obtain ⟨o1, o2⟩ := keep_out (hpr w hw.1) hw hkf
      have hf := a1 w hw.1 o2
      obtain ⟨u, hu, hue, hum⟩ := a2 e he.1.mem w hw.1 (hwe.trans hve)
      have m1 : u.2.1 ≤ w.2.1 := hw.2 u hu (hue.trans (hwe.trans hve).symm)
      have m2 : (entV w).2.1 ≤ e.2.1 := he.2 (entV w) hf.mem (hwe.trans hve)
      have m3 : (entV w).2.1 = w.2.1 := rfl
      have := he.1.one hf (hwe.trans hve).symm (by omega)
      rw [this]
      exact o1
    · exact a3 e he (fun v hv hk => hex ⟨v, hv, hk⟩)
