/-! ===== the newest values, and how they fare in every step; class; by hand ===== -/
/-- the key has the value b -/
def ValAt (c : Nat → Int8) (vs : List aV) (k b : List Nat) : Prop := ∃ v, NwV vs v ∧ v.1 = k ∧ valV c v = some b
theorem valV_some {c : Nat → Int8} {v : aV} {b : List Nat} (h : valV c v = some b) : v.2.2.2.1 ≠ none ∧ b = valB c v := by
  unfold valV at h
  cases e : v.2.2.2.1 with
  | none => rw [e] at h; exact (Option.some_ne_none b h.symm).elim
  | some n =>
    rw [e] at h
    refine ⟨Option.some_ne_none n, ?_⟩
    have h : sl c (v.2.2.1 + 8 + v.1.length) n = b := Option.some.inj h
    rw [← h]
    unfold valB
    rw [e]
    rfl
theorem valV_of {c : Nat → Int8} {v : aV} (h : v.2.2.2.1 ≠ none) : valV c v = some (valB c v) := by
  unfold valV valB
  cases e : v.2.2.2.1 with
  | none => exact absurd e h
  | some n => rfl
/-- the same versions, their values where they are said to be -/
theorem val_same {c c' : Nat → Int8} {vs vs' : List aV} {g : aV → aV} (h1 : ∀ v' ∈ vs', ∃ v ∈ vs, v'.1 = v.1 ∧ v'.2.1 = v.2.1 ∧ valV c' v' = valV c v) (h2 : ∀ v ∈ vs, ∃ v' ∈ vs', v'.1 = v.1 ∧ v'.2.1 = v.2.1 ∧ valV c' v' = valV c v) (k b : List Nat) : ValAt c' vs' k b ↔ ValAt c vs k b := by
  constructor
  · rintro ⟨v', n1, n2, n3⟩
    obtain ⟨v, hv, e1, e2, e3⟩ := h1 v' n1.1
    refine ⟨v, ⟨hv, fun u hu hk => ?_⟩, by rw [← e1]; exact n2, by rw [← e3]; exact n3⟩
    obtain ⟨u', hu', f1, f2, -⟩ := h2 u hu
    have := n1.2 u' hu' (f1.trans (hk.trans e1.symm))
    omega
  · rintro ⟨v, n1, n2, n3⟩
    obtain ⟨v', hv', e1, e2, e3⟩ := h2 v n1.1
    refine ⟨v', ⟨hv', fun u' hu' hk => ?_⟩, by rw [e1]; exact n2, by rw [e3]; exact n3⟩
    obtain ⟨u, hu, f1, f2, -⟩ := h1 u' hu'
    have := n1.2 u hu (f1.symm.trans (hk.trans e1))
    omega
theorem val_told {c c' : Nat → Int8} {vs : List aV} (h : ∀ v ∈ vs, v.2.2.2.1 ≠ none → valB c' v = valB c v) (k b : List Nat) : ValAt c' (vs.map toldV) k b ↔ ValAt c vs k b := by
  have hv : ∀ v ∈ vs, valV c' (toldV v) = valV c v := fun v hv => by
    by_cases e : v.2.2.2.1 = none
    · unfold valV
      rw [show (toldV v).2.2.2.1 = v.2.2.2.1 from rfl, e]
      rfl
    · rw [valV_of (v := toldV v) e, valV_of e]
      congr 1
      exact h v hv e
  refine val_same (g := id) (fun v' hv' => ?_) (fun v hv' => ⟨toldV v, List.mem_map.mpr ⟨v, hv', rfl⟩, rfl, rfl, hv v hv'⟩) k b
  obtain ⟨v, hv2, e⟩ := List.mem_map.mp hv'
  exact ⟨v, hv2, by rw [← e]; rfl, by rw [← e]; rfl, by rw [← e]; exact hv v hv2⟩
theorem val_chip {c c' : Nat → Int8} {vs : List aV} (h : ∀ v ∈ vs, v.2.2.2.1 ≠ none → valB c' v = valB c v) (k b : List Nat) : ValAt c' vs k b ↔ ValAt c vs k b := by
  have hv : ∀ v ∈ vs, valV c' v = valV c v := fun v hv => by
    by_cases e : v.2.2.2.1 = none
    · unfold valV
      rw [e]
      rfl
    · rw [valV_of e, valV_of e, h v hv e]
  exact val_same (g := id) (fun v hv' => ⟨v, hv', rfl, rfl, hv v hv'⟩) (fun v hv' => ⟨v, hv', rfl, rfl, hv v hv'⟩) k b
theorem val_mv {c c' : Nat → Int8} {vs : List aV} {blk : Option Nat} {Q : Nat → Nat} (h : ∀ j v, vs[j]? = some v → v.2.2.2.1 ≠ none → valB c' (mvV blk Q j v) = valB c v) (k b : List Nat) : ValAt c' (mvL blk Q 0 vs) k b ↔ ValAt c vs k b := by
  have hv : ∀ j v, vs[j]? = some v → valV c' (mvV blk Q j v) = valV c v := fun j v hj => by
    have hs := mvV_same (blk := blk) (Q := Q) (j := j) (v := v)
    by_cases e : v.2.2.2.1 = none
    · unfold valV
      rw [hs.2.2.1, e]
      rfl
    · rw [valV_of (by rw [hs.2.2.1]; exact e), valV_of e, h j v hj e]
  refine val_same (g := id) (fun v' hv' => ?_) (fun v hv' => ?_) k b
  · obtain ⟨j, v, hj, e⟩ := mem_mvL hv'
    rw [e]
    exact ⟨v, List.mem_of_getElem? hj, mvV_same.1, mvV_same.2.1, hv j v hj⟩
  · obtain ⟨j, hj⟩ := List.getElem?_of_mem hv'
    exact ⟨mvV blk Q j v, List.mem_of_getElem? (by rw [mvL_get hj, Nat.zero_add]), mvV_same.1, mvV_same.2.1, hv j v hj⟩
theorem val_purge {op : Nat → Bool} {sm : Nat → Nat} {pr : Nat} {c : Nat → Int8} {vs : List aV} (h1 : OneV vs) (hpr : ∀ u ∈ vs, u.2.1 ≤ pr) (k b : List Nat) : ValAt c (vs.filter (keepS op sm pr (kmV vs))) k b ↔ ValAt c vs k b := by
  constructor
  · rintro ⟨v, n1, n2, n3⟩
    obtain ⟨q1, q2⟩ := List.mem_filter.mp n1.1
    obtain ⟨w, hw, hwe, hwm⟩ := nw_ex q1
    have hk := keep_nw h1 hpr q1 q2 hw hwe
    have := n1.2 w (List.mem_filter.mpr ⟨hw.1, hk⟩) hwe
    have hvw := h1 w hw.1 v q1 hwe (by omega)
    rw [hvw] at hw
    exact ⟨v, hw, n2, n3⟩
  · rintro ⟨v, n1, n2, n3⟩
    have hk : keepS op sm pr (kmV vs) v = true := by
      cases e : keepS op sm pr (kmV vs) v with
      | true => rfl
      | false => exact absurd (keep_out (hpr v n1.1) n1 e).1 (valV_some n3).1
    exact ⟨v, ⟨List.mem_filter.mpr ⟨n1.1, hk⟩, fun u hu => n1.2 u (List.mem_filter.mp hu).1⟩, n2, n3⟩
/-- a change: its own keys have its values, all others what they had -/
theorem val_incl {c c' : Nat → Int8} {vs : List aV} {m : Nat} {Q : Nat → Nat} {ws : List aE} (h1 : OneW ws) (hm : ∀ v ∈ vs, v.2.1 < m) (hold : ∀ v ∈ vs, v.2.2.2.1 ≠ none → valB c' v = valB c v) (hnew : ∀ i e l, ws[i]? = some e → e.2 = some l → valB c' (e.1, m, Q i, e.2.map List.length, true) = l) (k b : List Nat) : ValAt c' (inclV m Q 0 ws vs) k b ↔ (k, some b) ∈ ws ∨ ((∀ e ∈ ws, ¬ e.1 = k) ∧ ValAt c vs k b) := by
  constructor
  · rintro ⟨v, n1, n2, n3⟩
    rcases mem_incl.mp n1.1 with q | q
    · right
      refine ⟨fun e he hk => ?_, ?_⟩
      · obtain ⟨i, hi⟩ := List.getElem?_of_mem he
        have := n1.2 (e.1, m, Q i, e.2.map List.length, true) (mem_incl.mpr (Or.inr (mem_verB.mpr ⟨i, e, hi, by rw [Nat.zero_add]⟩))) (hk.trans n2.symm)
        have h2 := hm v q
        have : m ≤ v.2.1 := this
        omega
      · rw [← val_chip hold]
        exact ⟨v, ⟨q, fun u hu => n1.2 u (mem_incl.mpr (Or.inl hu))⟩, n2, n3⟩
    · left
      obtain ⟨i, e, hi, ev⟩ := mem_verB.mp q
      rw [Nat.zero_add] at ev
      obtain ⟨s1, s2⟩ := valV_some n3
      obtain ⟨ek, el⟩ := e
      cases el with
      | none => rw [ev] at s1; exact absurd rfl s1
      | some l =>
        have := hnew i _ l hi rfl
        rw [ev] at s2 n2
        rw [this] at s2
        have n2 : ek = k := n2
        rw [s2, ← n2]
        exact List.mem_of_getElem? hi
  · rintro (h | ⟨h2, v, n1, n2, n3⟩)
    · obtain ⟨i, hi⟩ := List.getElem?_of_mem h
      refine ⟨(k, m, Q i, some b.length, true), ⟨mem_incl.mpr (Or.inr (mem_verB.mpr ⟨i, _, hi, by rw [Nat.zero_add]; rfl⟩)), fun u hu hk => ?_⟩, rfl, ?_⟩
      · rcases mem_incl.mp hu with q | q
        · exact Nat.le_of_lt (hm u q)
        · rw [(verB_alone q).2]; exact Nat.le_refl _
      · rw [valV_of (v := (k, m, Q i, some b.length, true)) (Option.some_ne_none _)]
        congr 1
        exact hnew i _ b hi rfl
    · refine ⟨v, ⟨mem_incl.mpr (Or.inl n1.1), fun u hu hk => ?_⟩, n2, ?_⟩
      · rcases mem_incl.mp hu with q | q
        · exact n1.2 u q hk
        · obtain ⟨i, e, hi, ev⟩ := mem_verB.mp q
          rw [ev] at hk
          exact absurd (hk.trans n2) (h2 e (List.mem_of_getElem? hi))
      · rw [← n3]
        by_cases e : v.2.2.2.1 = none
        · exact absurd e (valV_some n3).1
        · rw [valV_of e, valV_of e, hold v n1.1 e]
