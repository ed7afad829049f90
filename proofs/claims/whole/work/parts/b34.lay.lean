/-! ===== pieces that are written over; by hand ===== -/
/-- the bytes of a piece, none if it is not there -/
def oldP (ps : List aPc) (f i : Nat) : List Int8 := match pcI ps f i with
  | some p => pcB ps p
  | none => []
theorem old_in {ps : List aPc} {f i : Nat} {y : List Int8} (h : OneP ps) (hy : ((f, i, y) : aPc) ∈ ps) : oldP ps f i = y := by
  unfold oldP
  cases e : pcI ps f i with
  | none => exact absurd hy (pcI_none e y)
  | some p =>
    obtain ⟨b, hb⟩ := pcI_some e
    have : ((f, i, b) : aPc) = (f, i, y) := h.eq (List.mem_of_getElem? hb) hy rfl rfl
    show pcB ps p = y
    unfold pcB
    rw [hb]
    exact congrArg (fun z : aPc => z.2.2) this
theorem old_no {ps : List aPc} {f i : Nat} (hy : ∀ y : List Int8, ((f, i, y) : aPc) ∉ ps) : oldP ps f i = [] := by
  unfold oldP
  cases e : pcI ps f i with
  | none => rfl
  | some p =>
    obtain ⟨b, hb⟩ := pcI_some e
    exact absurd (List.mem_of_getElem? hb) (hy b)
theorem pw_idx {ps : List aPc} (h : OneP ps) {a b : Nat} {x y : aPc} (ha : ps[a]? = some x) (hb : ps[b]? = some y) (h1 : x.1 = y.1) (h2 : x.2.1 = y.2.1) : a = b := by
  have hp := h.1
  rw [List.pairwise_iff_getElem] at hp
  obtain ⟨a1, a2⟩ := List.getElem?_eq_some_iff.mp ha
  obtain ⟨b1, b2⟩ := List.getElem?_eq_some_iff.mp hb
  by_cases e : a = b
  · exact e
  · rcases Nat.lt_or_gt_of_ne e with q | q
    · exact absurd ⟨by rw [a2, b2]; exact h1, by rw [a2, b2]; exact h2⟩ (hp a b a1 b1 q)
    · exact absurd ⟨by rw [a2, b2]; exact h1.symm, by rw [a2, b2]; exact h2.symm⟩ (hp b a b1 a1 q)
theorem mem_layE {ps : List aPc} {f i a g j : Nat} {bs b8 : List Int8} (h : OneP ps) : ((g, j, b8) : aPc) ∈ layE ps f i a bs ↔ (¬ (g = f ∧ j = i) ∧ (g, j, b8) ∈ ps) ∨ (g = f ∧ j = i ∧ b8 = ovB (oldP ps f i) a bs) := by
  unfold layE oldP
  cases e : pcI ps f i with
  | none =>
    show ((g, j, b8) : aPc) ∈ ps ++ [(f, i, ovB [] a bs)] ↔ (¬ (g = f ∧ j = i) ∧ (g, j, b8) ∈ ps) ∨ (g = f ∧ j = i ∧ b8 = ovB [] a bs)
    rw [List.mem_append, List.mem_singleton]
    constructor
    · rintro (q | q)
      · refine Or.inl ⟨fun k => ?_, q⟩
        rw [k.1, k.2] at q
        exact absurd q (pcI_none e b8)
      · injection q with q1 q2
        injection q2 with q2 q3
        exact Or.inr ⟨q1, q2, q3⟩
    · rintro (q | ⟨q1, q2, q3⟩)
      · exact Or.inl q.2
      · rw [q1, q2, q3]; exact Or.inr rfl
  | some p =>
    obtain ⟨b, hb⟩ := pcI_some e
    show ((g, j, b8) : aPc) ∈ ps.set p (f, i, ovB (pcB ps p) a bs) ↔ (¬ (g = f ∧ j = i) ∧ (g, j, b8) ∈ ps) ∨ (g = f ∧ j = i ∧ b8 = ovB (pcB ps p) a bs)
    have hp := get_lt hb
    constructor
    · intro q
      obtain ⟨k, hk⟩ := List.getElem?_of_mem q
      by_cases ek : p = k
      · rw [← ek, List.getElem?_set_self hp] at hk
        have hk := Option.some.inj hk
        injection hk with q1 q2
        injection q2 with q2 q3
        exact Or.inr ⟨q1.symm, q2.symm, q3.symm⟩
      · rw [List.getElem?_set_ne ek] at hk
        refine Or.inl ⟨fun m => ek (pw_idx h hb hk m.1.symm m.2.symm), List.mem_of_getElem? hk⟩
    · rintro (⟨q1, q2⟩ | ⟨q1, q2, q3⟩)
      · obtain ⟨k, hk⟩ := List.getElem?_of_mem q2
        have ek : ¬ p = k := fun ek => by
          rw [← ek, hb] at hk
          have hk := Option.some.inj hk
          injection hk with r1 r2
          injection r2 with r2 r3
          exact q1 ⟨r1.symm, r2.symm⟩
        exact List.mem_of_getElem? ((List.getElem?_set_ne ek).trans hk)
      · rw [q1, q2, q3]
        exact List.mem_of_getElem? (List.getElem?_set_self hp)
theorem OneP.laid {ps : List aPc} {f i a : Nat} {bs : List Int8} (h : OneP ps) (hb : 1 ≤ bs.length) : OneP (layE ps f i a bs) := by
  refine ⟨?_, fun x hx => ?_⟩
  · unfold layE
    cases e : pcI ps f i with
    | none =>
      show (ps ++ [(f, i, ovB [] a bs)]).Pairwise _
      rw [List.pairwise_append]
      refine ⟨h.1, List.pairwise_singleton _ _, fun x hx y hy q => ?_⟩
      rw [List.mem_singleton.mp hy] at q
      obtain ⟨x1, x2, x3⟩ := x
      have q1 : x1 = f := q.1
      have q2 : x2 = i := q.2
      rw [q1, q2] at hx
      exact pcI_none e x3 hx
    | some p =>
      obtain ⟨b, hbp⟩ := pcI_some e
      show (ps.set p (f, i, ovB (pcB ps p) a bs)).Pairwise _
      have hm : (ps.set p (f, i, ovB (pcB ps p) a bs)).map (fun x => (x.1, x.2.1)) = ps.map (fun x => (x.1, x.2.1)) := by
        rw [List.map_set]
        refine List.ext_getElem? (fun k => ?_)
        by_cases ek : p = k
        · rw [← ek, List.getElem?_set_self (by rw [List.length_map]; exact get_lt hbp), List.getElem?_map, hbp]
          rfl
        · rw [List.getElem?_set_ne ek]
      have h2 : (ps.map (fun x => (x.1, x.2.1))).Pairwise (fun x y => ¬ (x.1 = y.1 ∧ x.2 = y.2)) := List.pairwise_map.mpr h.1
      rw [← hm] at h2
      exact List.pairwise_map.mp h2
  · obtain ⟨g, j, b8⟩ := x
    rcases (mem_layE h).mp hx with ⟨-, q⟩ | ⟨-, -, q⟩
    · exact h.2 _ q
    · show 1 ≤ b8.length
      rw [q, ovB_len]
      omega
theorem oneP_layN {tb : Nat → Int8} {f off e : Nat} {ps : List aPc} (h : OneP ps) : ∀ (m : Nat), (∀ k, k < m → off - 512 * (off / 512 + k) < layK e (off / 512 + k)) → OneP (layN tb f off e ps m)
  | 0, _ => h
  | m + 1, hm => (oneP_layN h m (fun k hk => hm k (by omega))).laid (by rw [bsI_len]; have := hm m (by omega); omega)
/-- what a write has left -/
theorem mem_layN {tb : Nat → Int8} {f off e : Nat} {ps : List aPc} (h : OneP ps) : ∀ (m : Nat), (∀ k, k < m → off - 512 * (off / 512 + k) < layK e (off / 512 + k)) → ∀ (g j : Nat) (b8 : List Int8), ((g, j, b8) : aPc) ∈ layN tb f off e ps m ↔ (¬ (g = f ∧ off / 512 ≤ j ∧ j < off / 512 + m) ∧ (g, j, b8) ∈ ps) ∨ (g = f ∧ off / 512 ≤ j ∧ j < off / 512 + m ∧ b8 = ovB (oldP ps f j) (off - 512 * j) (bsI tb (512 * j - off) (layK e j - (off - 512 * j))))
  | 0, _, g, j, b8 => by
    show ((g, j, b8) : aPc) ∈ ps ↔ _
    constructor
    · intro q; exact Or.inl ⟨fun k => by omega, q⟩
    · rintro (q | ⟨-, q1, q2, -⟩)
      · exact q.2
      · omega
  | m + 1, hm, g, j, b8 => by
    have ih := mem_layN (tb := tb) (f := f) (off := off) (e := e) h m (fun k hk => hm k (by omega))
    have h1 := oneP_layN (tb := tb) (f := f) (off := off) (e := e) h m (fun k hk => hm k (by omega))
    have hold : oldP (layN tb f off e ps m) f (off / 512 + m) = oldP ps f (off / 512 + m) := by
      by_cases q : ∃ y : List Int8, ((f, off / 512 + m, y) : aPc) ∈ ps
      · obtain ⟨y, hy⟩ := q
        rw [old_in h hy]
        exact old_in h1 ((ih _ _ _).mpr (Or.inl ⟨fun k => by omega, hy⟩))
      · rw [old_no (fun y hy => q ⟨y, hy⟩)]
        refine old_no (fun y hy => ?_)
        rcases (ih _ _ _).mp hy with r | r
        · exact q ⟨y, r.2⟩
        · omega
    show ((g, j, b8) : aPc) ∈ layE (layN tb f off e ps m) f (off / 512 + m) (off - 512 * (off / 512 + m)) (bsI tb (512 * (off / 512 + m) - off) (layK e (off / 512 + m) - (off - 512 * (off / 512 + m)))) ↔ _
    rw [mem_layE h1, hold, ih]
    constructor
    · rintro (⟨q1, ⟨q2, q3⟩ | ⟨q2, q3, q4, q5⟩⟩ | ⟨q1, q2, q3⟩)
      · exact Or.inl ⟨fun k => by
          by_cases ej : j = off / 512 + m
          · exact q1 ⟨k.1, ej⟩
          · exact q2 ⟨k.1, k.2.1, by omega⟩, q3⟩
      · exact Or.inr ⟨q2, q3, by omega, q5⟩
      · rw [← q2] at q3
        exact Or.inr ⟨q1, by omega, by omega, q3⟩
    · rintro (⟨q1, q2⟩ | ⟨q1, q2, q3, q4⟩)
      · exact Or.inl ⟨fun k => q1 ⟨k.1, by omega, by omega⟩, Or.inl ⟨fun k => q1 ⟨k.1, k.2.1, by omega⟩, q2⟩⟩
      · by_cases ej : j = off / 512 + m
        · rw [ej] at q4
          exact Or.inr ⟨q1, ej, q4⟩
        · exact Or.inl ⟨fun k => ej k.2, Or.inr ⟨q1, q2, by omega, q4⟩⟩
theorem ovB_map {old bs : List Int8} {a : Nat} : (ovB old a bs).map ub = ovrL (old.map ub) a (bs.map ub) := by
  unfold ovB ovrL
  rw [List.map_append, List.map_append, List.map_take, List.map_append, List.map_replicate, List.map_drop, List.length_map, List.length_map]
  rfl
theorem bsI_map {tb tb' : Nat → Int8} {s : Nat} : ∀ {m : Nat}, (∀ t, t < m → tb (s + t) = tb' (s + t)) → (bsI tb' s m).map ub = sl tb s m := fun {m} h => by
  refine List.ext_getElem? (fun k => ?_)
  rw [List.getElem?_map, bsI_get]
  by_cases e : k < m
  · rw [if_pos e, sl_get m s k e, ← h k e]
    rfl
  · rw [if_neg e]
    have : (sl tb s m).length ≤ k := by rw [sl_length]; omega
    rw [List.getElem?_eq_none this]
    rfl
theorem mem_wrA {c : Nat → Int8} {vs : List aV} {f tt n : Nat} {tb : Nat → Int8} {e : aE} : ∀ {k : Nat}, e ∈ wrA c vs f tt n tb k ↔ ∃ j, j < k ∧ e = wrP c vs f tt n tb (tt / 512 + j)
  | 0 => ⟨fun h => absurd h List.not_mem_nil, fun ⟨i, h, _⟩ => absurd h (Nat.not_lt_zero i)⟩
  | k + 1 => by
    show e ∈ wrA c vs f tt n tb k ++ [wrP c vs f tt n tb (tt / 512 + k)] ↔ _
    rw [List.mem_append, mem_wrA, List.mem_singleton]
    constructor
    · rintro (⟨j, h1, h2⟩ | h)
      · exact ⟨j, by omega, h2⟩
      · exact ⟨k, by omega, h⟩
    · rintro ⟨j, h1, h2⟩
      by_cases q : j = k
      · rw [q] at h2; exact Or.inr h2
      · exact Or.inl ⟨j, by omega, h2⟩
theorem PcR.old {c : Nat → Int8} {vs : List aV} {ps : List aPc} {f i : Nat} (h : PcR c vs ps) (hp : OneP ps) (hO : OneV vs) (hM : ∀ v ∈ vs, v.2.1 ≤ 2 ^ 30) : pcV c vs f i = (oldP ps f i).map ub := by
  by_cases hin : pcIn vs f i = true
  · obtain ⟨y, y1, y2⟩ := h.noth hO hM hin
    rw [old_in hp y1, y2]
  · rw [old_no (fun y hy => hin (h.there hO hM hy).1), List.map_nil]
    unfold pcIn at hin
    unfold pcV
    cases e : seenV vs [2, f, i] (2 ^ 30) with
    | none => rfl
    | some v =>
      rw [e] at hin
      have hn : v.2.2.2.1 = none := by
        by_cases q : v.2.2.2.1 = none
        · exact q
        · exact absurd (decide_eq_true q) hin
      show sl c (v.2.2.1 + 8 + v.1.length) (v.2.2.2.1.getD 0) = []
      rw [hn]
      rfl
/-- a file's pieces are written over -/
theorem PcR.lay {ky : List (List Nat)} {c c' : Nat → Int8} {vs vs' : List aV} {ws : List aE} {ps : List aPc} {f off l K P : Nat} {tb tb' : Nat → Int8} (h : PcR c vs ps) (hI : InV c c' vs vs' ws) (h1 : OneW ws) (hO : OneV vs) (hP : P ≤ 2 ^ 30) (hV : ∀ v ∈ vs, VOk ky P v) (hw : ∀ e : aE, e.1.headD 0 = 2 → (e ∈ ws ↔ e ∈ wrA c vs f off l tb K)) (hp : OneP ps) (hl : 1 ≤ l) (hK : K = (off + l - 1) / 512 + 1 - off / 512) (htb : ∀ t, t < l → tb t = tb' t) : PcR c' vs' (layN tb' f off (off + l) ps K) := fun g i b => by
  have hM : ∀ v ∈ vs, v.2.1 ≤ 2 ^ 30 := fun v hv => Nat.le_trans (hV v hv).1 hP
  have hlk : ∀ k, k < K → off - 512 * (off / 512 + k) < layK (off + l) (off / 512 + k) := fun k hk => by unfold layK; omega
  have hmem := mem_layN (tb := tb') (f := f) (off := off) (e := off + l) hp K hlk g i
  by_cases e : g = f ∧ off / 512 ≤ i ∧ i < off / 512 + K
  · have hent : wrP c vs f off l tb i = ([2, g, i], some ((ovB (oldP ps f i) (off - 512 * i) (bsI tb' (512 * i - off) (layK (off + l) i - (off - 512 * i)))).map ub)) := by
      have a1 : max off (i * 512) - i * 512 = off - 512 * i := by omega
      have a2 : max off (i * 512) - off = 512 * i - off := by omega
      have a3 : min (off + l) (i * 512 + 512) - max off (i * 512) = layK (off + l) i - (off - 512 * i) := by unfold layK; omega
      have a4 : 512 * i - off + (layK (off + l) i - (off - 512 * i)) ≤ l := by unfold layK; omega
      unfold wrP
      rw [a1, a2, a3, ovB_map, h.old hp hO hM, bsI_map (tb := tb) (fun t ht => htb _ (by omega)), e.1]
    have hmw : (([2, g, i], some ((ovB (oldP ps f i) (off - 512 * i) (bsI tb' (512 * i - off) (layK (off + l) i - (off - 512 * i)))).map ub)) : aE) ∈ ws := (hw _ rfl).mpr (mem_wrA.mpr ⟨i - off / 512, by omega, by rw [show off / 512 + (i - off / 512) = i by omega, hent]⟩)
    rw [hI.put h1 hmw]
    constructor
    · intro q
      exact ⟨_, (hmem _).mpr (Or.inr ⟨e.1, e.2.1, e.2.2, rfl⟩), q⟩
    · rintro ⟨b8, q1, q2⟩
      rcases (hmem b8).mp q1 with r | r
      · exact absurd e r.1
      · rw [q2, r.2.2.2]
  · have hno : ∀ x ∈ ws, ¬ x.1 = [2, g, i] := fun x hx ex => by
      obtain ⟨j, j1, j2⟩ := mem_wrA.mp ((hw x (by rw [ex]; rfl)).mp hx)
      rw [j2] at ex
      have ex : [2, f, off / 512 + j] = [2, g, i] := ex
      injection ex with _ ex
      injection ex with e1 ex
      injection ex with e2 _
      exact e ⟨e1.symm, by omega, by omega⟩
    rw [hI.same hno, h g i b]
    constructor
    · rintro ⟨b8, q1, q2⟩
      exact ⟨b8, (hmem b8).mpr (Or.inl ⟨e, q1⟩), q2⟩
    · rintro ⟨b8, q1, q2⟩
      rcases (hmem b8).mp q1 with r | r
      · exact ⟨b8, r.2, q2⟩
      · exact absurd ⟨r.1, r.2.1, r.2.2.1⟩ e
