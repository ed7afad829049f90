/-! ===== a cursor on a table whose entries are known; written by wip/gen/curi.py ===== -/
/-- the run x holds the entries es -/
def RunOk (c : Nat → Int8) (B : Nat) (x : aR) (es : List aT) : Prop := x.2.2.1 = es.length ∧ x.2.1 = (es.flatMap encE).length ∧ sl (strm c x.2.2.2) 0 x.2.1 = es.flatMap encE ∧ x.2.1 ≤ x.2.2.2.length * 2048 ∧ (∀ e ∈ es, EOk e) ∧ (∀ b ∈ x.2.2.2, b < B) ∧ x.2.2.2.length ≤ 64
def offE (es : List aT) (i : Nat) : Nat := ((es.take i).flatMap encE).length
theorem offE_succ {es : List aT} {i : Nat} {e : aT} (h : es[i]? = some e) : offE es (i + 1) = offE es i + (e.1.length + 10) := by
  unfold offE
  rw [fm_take h, List.length_append, encE_len]
theorem offE_le {es : List aT} {i : Nat} : offE es i ≤ (es.flatMap encE).length := by
  unfold offE
  conv => rhs; rw [← List.take_append_drop i es, List.flatMap_append, List.length_append]
  omega
theorem offE_all {es : List aT} : offE es es.length = (es.flatMap encE).length := by
  unfold offE
  rw [List.take_of_length_le (Nat.le_refl _)]
theorem RunOk.at {c : Nat → Int8} {B : Nat} {x : aR} {es : List aT} (h : RunOk c B x es) {i : Nat} {e : aT} (hi : es[i]? = some e) : sl (strm c x.2.2.2) (offE es i) (e.1.length + 10) = encE e ∧ offE es i + (e.1.length + 10) ≤ x.2.1 ∧ EOk e := by
  obtain ⟨h1, h2, h3, h4, h5, h6⟩ := h
  have := sl_fm h3 hi
  rw [Nat.zero_add, encE_len] at this
  have h9 := offE_succ hi
  have h10 := offE_le (es := es) (i := i + 1)
  exact ⟨this, by omega, h5 e (List.mem_of_getElem? hi)⟩
/-- the cursor q on the run r stands at the entry i -/
def CurI (H : aH) (q r : Nat) (x : aR) (es : List aT) (i : Nat) : Prop := ∃ g, H[q + 1]? = some (kB 41 g) ∧ ((∃ e, es[i]? = some e ∧ H[q]? = some (kO 2 (curF q (.ref (r + 1)) (nI (offE es (i + 1))) (nI e.1.length) (nI e.2.1) (nI e.2.2.1) (lI e.2.2.2) 0)) ∧ sl g 0 e.1.length = e.1) ∨ (i = es.length ∧ ∃ kl mo pl le, H[q]? = some (kO 2 (curF q (.ref (r + 1)) (nI x.2.1) kl mo pl le 1))))
/-- a cursor as it may be -/
def CurA (H : aH) (q : Nat) : Prop := ∃ g rn o kl mo pl le en, H[q + 1]? = some (kB 41 g) ∧ H[q]? = some (kO 2 (curF q rn o kl mo pl le en))
theorem CurI.any {H : aH} {q r : Nat} {x : aR} {es : List aT} {i : Nat} (h : CurI H q r x es i) : CurA H q := by
  obtain ⟨g, h1, ⟨e, h2, h3, h4⟩ | ⟨h2, kl, mo, pl, le, h3⟩⟩ := h
  · exact ⟨_, _, _, _, _, _, _, _, h1, h3⟩
  · exact ⟨_, _, _, _, _, _, _, _, h1, h3⟩
theorem CurI.far {H H' : aH} {q r : Nat} {x : aR} {es : List aT} {i : Nat} (h : CurI H q r x es i) (h0 : H'[q]? = H[q]?) (h1 : H'[q + 1]? = H[q + 1]?) : CurI H' q r x es i := by
  obtain ⟨g, a1, ⟨e, a2, a3, a4⟩ | ⟨a2, kl, mo, pl, le, a3⟩⟩ := h
  · exact ⟨g, h1.trans a1, Or.inl ⟨e, a2, h0.trans a3, a4⟩⟩
  · exact ⟨g, h1.trans a1, Or.inr ⟨a2, kl, mo, pl, le, h0.trans a3⟩⟩
/-- from an offset on -/
theorem rn_cadvO {sc : Nat × (Nat → Int32)} {d q r i : Nat} {H : aH} {kl mo pl le en : Int32} {x : aR} {es : List aT} {B : Nat} {cf : Nat → Int8} {tf : Nat → Nat} {pq : Option Nat} {bb ov : Nat} {g : Nat → Int8} (hq : H[q]? = some (kO 2 (curF q (.ref (r + 1)) (nI (offE es i)) kl mo pl le en))) (hg : H[q + 1]? = some (kB 41 g)) (hR : RunIs H r x) (hO : RunOk cf B x es) (hC : ChipAt H B cf tf pq bb ov) (hB : B ≤ 128) (hq1 : 142 ≤ q) (hr1 : r < 136) (hi : i ≤ es.length) : RN sc (d + 2) mr_122 [.ref (q + 1)] H (fun H' => CurI H' q r x es i ∧ ∀ a, a ≠ q → a ≠ q + 1 → H'[a]? = H[a]?) := by
  have hle := offE_le (es := es) (i := i)
  obtain ⟨o1, o2, o3, o4, o5, o6, o7⟩ := id hO
  by_cases h : i < es.length
  · obtain ⟨e, he⟩ := lt_get h
    obtain ⟨s1, s2, s3⟩ := hO.at he
    obtain ⟨H', h1, ⟨g', h2, h3, h4⟩, h5⟩ := rn_cadv (sc := sc) (d := d) hq hR hC hB hq1 hr1 o6 hg (by have := s3.1; omega) o4 (by omega) s3 s1
    refine ⟨H', h1, ⟨g', h3, Or.inl ⟨e, he, ?_, h4⟩⟩, h5⟩
    rw [offE_succ he, show offE es i + (e.1.length + 10) = offE es i + 1 + e.1.length + 4 + 3 + 2 by omega]
    exact h2
  · have e : i = es.length := by omega
    rw [e, offE_all, ← o2] at hq
    refine ⟨_, rc_cadvE hq hR (by omega) (Nat.le_refl _) (by omega), ⟨g, (set_far (by omega)).trans hg, Or.inr ⟨e, kl, mo, pl, le, get_set hq⟩⟩, fun a h1 h2 => set_far h1⟩
theorem rn_cadvI {sc : Nat × (Nat → Int32)} {d q r i : Nat} {H : aH} {x : aR} {es : List aT} {B : Nat} {cf : Nat → Int8} {tf : Nat → Nat} {pq : Option Nat} {bb ov : Nat} (h : CurI H q r x es i) (hR : RunIs H r x) (hO : RunOk cf B x es) (hC : ChipAt H B cf tf pq bb ov) (hB : B ≤ 128) (hq1 : 142 ≤ q) (hr1 : r < 136) (hi : i < es.length) : RN sc (d + 2) mr_122 [.ref (q + 1)] H (fun H' => CurI H' q r x es (i + 1) ∧ ∀ a, a ≠ q → a ≠ q + 1 → H'[a]? = H[a]?) := by
  obtain ⟨g, a1, ⟨e, a2, a3, a4⟩ | ⟨a2, -⟩⟩ := h
  · exact rn_cadvO a3 a1 hR hO hC hB hq1 hr1 hi
  · omega
theorem encE_pos {e : aT} : 1 ≤ (encE e).length := by rw [encE_len]; omega
