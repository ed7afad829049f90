/-! ===== pieces as versions; what changes of files make of nodes and pieces; by hand ===== -/
theorem val_seen {c : Nat → Int8} {vs : List aV} {M : Nat} (h1 : OneV vs) (hM : ∀ v ∈ vs, v.2.1 ≤ M) {k b : List Nat} : ValAt c vs k b ↔ ∃ v, seenV vs k M = some v ∧ valV c v = some b := by
  constructor
  · rintro ⟨v, n1, n2, n3⟩
    exact ⟨v, (seenV_some h1).mpr ⟨n1.1, n2, (stk_nw hM n1.1).mpr n1⟩, n3⟩
  · rintro ⟨v, n1, n3⟩
    obtain ⟨q1, q2, q3⟩ := (seenV_some h1).mp n1
    exact ⟨v, (stk_nw hM q1).mp q3, q2, n3⟩
theorem val_pc {c : Nat → Int8} {vs : List aV} (h1 : OneV vs) (hM : ∀ v ∈ vs, v.2.1 ≤ 2 ^ 30) {f i : Nat} {b : List Nat} : ValAt c vs [2, f, i] b ↔ pcIn vs f i = true ∧ pcV c vs f i = b := by
  rw [val_seen h1 hM]
  unfold pcIn pcV
  cases e : seenV vs [2, f, i] (2 ^ 30) with
  | none =>
    constructor
    · rintro ⟨v, h, -⟩; exact absurd h.symm (Option.some_ne_none _)
    · rintro ⟨h, -⟩; exact Bool.noConfusion h
  | some v =>
    constructor
    · rintro ⟨w, h, h2⟩
      have h : v = w := Option.some.inj h
      rw [← h] at h2
      obtain ⟨s1, s2⟩ := valV_some h2
      refine ⟨decide_eq_true s1, ?_⟩
      rw [s2]
      rfl
    · rintro ⟨h, h2⟩
      have h : ¬ v.2.2.2.1 = none := of_decide_eq_true h
      refine ⟨v, rfl, ?_⟩
      rw [valV_of h, ← h2]
      rfl
/-- the newest versions of pieces are these pieces -/
def PcR (c : Nat → Int8) (vs : List aV) (ps : List aPc) : Prop := ∀ f i b, ValAt c vs [2, f, i] b ↔ ∃ b8 : List Int8, (f, i, b8) ∈ ps ∧ b = b8.map ub
/-- no piece is there twice, none is empty -/
def OneP (ps : List aPc) : Prop := ps.Pairwise (fun x y => ¬ (x.1 = y.1 ∧ x.2.1 = y.2.1)) ∧ ∀ x ∈ ps, 1 ≤ x.2.2.length
theorem OneP.eq {ps : List aPc} (h : OneP ps) {x y : aPc} (hx : x ∈ ps) (hy : y ∈ ps) (h1 : x.1 = y.1) (h2 : x.2.1 = y.2.1) : x = y := by
  obtain ⟨h, -⟩ := h
  induction ps with
  | nil => exact absurd hx List.not_mem_nil
  | cons a t ih =>
    rw [List.pairwise_cons] at h
    rcases List.mem_cons.mp hx with q | q <;> rcases List.mem_cons.mp hy with r | r
    · rw [q, r]
    · exact absurd ⟨by rw [← q]; exact h1, by rw [← q]; exact h2⟩ (h.1 y r)
    · exact absurd ⟨by rw [← r]; exact h1.symm, by rw [← r]; exact h2.symm⟩ (h.1 x q)
    · exact ih q r h.2
theorem OneP.perm {ps qs : List aPc} (h : OneP ps) (hp : ps.Perm qs) : OneP qs := ⟨(hp.pairwise_iff (fun h1 h2 => h1 ⟨h2.1.symm, h2.2.symm⟩)).mp h.1, fun x hx => h.2 x (hp.mem_iff.mpr hx)⟩
theorem PcR.perm {c : Nat → Int8} {vs : List aV} {ps qs : List aPc} (h : PcR c vs ps) (hp : ps.Perm qs) : PcR c vs qs := fun f i b => by
  rw [h f i b]
  exact ⟨fun ⟨b8, q1, q2⟩ => ⟨b8, hp.mem_iff.mp q1, q2⟩, fun ⟨b8, q1, q2⟩ => ⟨b8, hp.mem_iff.mpr q1, q2⟩⟩
theorem PcR.val {c c' : Nat → Int8} {vs vs' : List aV} {ps : List aPc} (h : PcR c vs ps) (hv : ∀ k b, ValAt c' vs' k b ↔ ValAt c vs k b) : PcR c' vs' ps := fun f i b => (hv _ b).trans (h f i b)
theorem NodR.val {c c' : Nat → Int8} {vs vs' : List aV} {kd pa sz nl : Nat → Nat} {nm : Nat → Int8} (h : NodR c vs kd pa sz nl nm) (hv : ∀ k b, ValAt c' vs' k b ↔ ValAt c vs k b) : NodR c' vs' kd pa sz nl nm := fun f h1 h2 b => (hv _ b).trans (h f h1 h2 b)
/-- what val_incl says, in short -/
def InV (c c' : Nat → Int8) (vs vs' : List aV) (ws : List aE) : Prop := ∀ k b, ValAt c' vs' k b ↔ (k, some b) ∈ ws ∨ ((∀ e ∈ ws, ¬ e.1 = k) ∧ ValAt c vs k b)
theorem InV.same {c c' : Nat → Int8} {vs vs' : List aV} {ws : List aE} (h : InV c c' vs vs' ws) {k b : List Nat} (hk : ∀ e ∈ ws, ¬ e.1 = k) : ValAt c' vs' k b ↔ ValAt c vs k b := by
  rw [h k b]
  exact ⟨fun q => q.elim (fun q => absurd rfl (hk _ q)) (fun q => q.2), fun q => Or.inr ⟨hk, q⟩⟩
theorem InV.out {c c' : Nat → Int8} {vs vs' : List aV} {ws : List aE} (h : InV c c' vs vs' ws) (h1 : OneW ws) {k b : List Nat} (hk : (k, none) ∈ ws) : ¬ ValAt c' vs' k b := by
  rw [h k b]
  rintro (q | q)
  · obtain ⟨i, hi⟩ := List.getElem?_of_mem hk
    obtain ⟨j, hj⟩ := List.getElem?_of_mem q
    have e := h1 i j _ _ hi hj rfl
    rw [e, hj] at hi
    exact absurd (congrArg (fun z : aE => z.2) (Option.some.inj hi)) (Option.some_ne_none _)
  · exact q.1 _ hk rfl
theorem InV.put {c c' : Nat → Int8} {vs vs' : List aV} {ws : List aE} (h : InV c c' vs vs' ws) (h1 : OneW ws) {k b l : List Nat} (hk : (k, some l) ∈ ws) : ValAt c' vs' k b ↔ b = l := by
  rw [h k b]
  constructor
  · rintro (q | q)
    · obtain ⟨i, hi⟩ := List.getElem?_of_mem hk
      obtain ⟨j, hj⟩ := List.getElem?_of_mem q
      have e := h1 i j _ _ hi hj rfl
      rw [e, hj] at hi
      exact Option.some.inj (congrArg (fun z : aE => z.2) (Option.some.inj hi))
    · exact absurd rfl (q.1 _ hk)
  · intro q
    rw [q]
    exact Or.inl hk
theorem PcR.user {c c' : Nat → Int8} {vs vs' : List aV} {ws : List aE} {ps : List aPc} (h : PcR c vs ps) (hI : InV c c' vs vs' ws) (hk : ∀ e ∈ ws, ¬ e.1.headD 0 = 2) : PcR c' vs' ps := fun f i b => (hI.same (fun e he ek => hk e he (by rw [ek]; rfl))).trans (h f i b)
theorem NodR.user {c c' : Nat → Int8} {vs vs' : List aV} {ws : List aE} {kd pa sz nl : Nat → Nat} {nm : Nat → Int8} (h : NodR c vs kd pa sz nl nm) (hI : InV c c' vs vs' ws) (hk : ∀ e ∈ ws, ¬ e.1.headD 0 = 1) : NodR c' vs' kd pa sz nl nm := fun f h1 h2 b => (hI.same (fun e he ek => hk e he (by rw [ek]; rfl))).trans (h f h1 h2 b)
/-- a node is put -/
theorem NodR.put {c c' : Nat → Int8} {vs vs' : List aV} {ws : List aE} {kd pa sz nl kd' pa' sz' nl' : Nat → Nat} {nm nm' : Nat → Int8} {v : Nat} (h : NodR c vs kd pa sz nl nm) (hI : InV c c' vs vs' ws) (h1 : OneW ws) (hw : ([1, v], some (nodB kd' pa' sz' nl' nm' v)) ∈ ws) (hk : kd' v ≠ 0) (hoth : ∀ f, 1 ≤ f → f ≤ 200 → f ≠ v → (∀ e ∈ ws, ¬ e.1 = [1, f]) ∧ kd' f = kd f ∧ (kd f ≠ 0 → nodB kd' pa' sz' nl' nm' f = nodB kd pa sz nl nm f)) : NodR c' vs' kd' pa' sz' nl' nm' := fun f f1 f2 b => by
  by_cases e : f = v
  · rw [e, hI.put h1 hw]
    exact ⟨fun q => ⟨hk, q⟩, fun q => q.2⟩
  · obtain ⟨q1, q2, q3⟩ := hoth f f1 f2 e
    rw [hI.same q1, h f f1 f2 b, q2]
    exact ⟨fun q => ⟨q.1, by rw [q3 q.1]; exact q.2⟩, fun q => ⟨q.1, by rw [← q3 q.1]; exact q.2⟩⟩
/-- a node goes -/
theorem NodR.gone {c c' : Nat → Int8} {vs vs' : List aV} {ws : List aE} {kd pa sz nl kd' : Nat → Nat} {nm : Nat → Int8} {v : Nat} (h : NodR c vs kd pa sz nl nm) (hI : InV c c' vs vs' ws) (h1 : OneW ws) (hw : ([1, v], none) ∈ ws) (hk : kd' v = 0) (hoth : ∀ f, 1 ≤ f → f ≤ 200 → f ≠ v → (∀ e ∈ ws, ¬ e.1 = [1, f]) ∧ kd' f = kd f) : NodR c' vs' kd' pa sz nl nm := fun f f1 f2 b => by
  by_cases e : f = v
  · rw [e]
    exact ⟨fun q => absurd q (hI.out h1 hw), fun q => absurd hk q.1⟩
  · obtain ⟨q1, q2⟩ := hoth f f1 f2 e
    rw [hI.same q1, h f f1 f2 b]
    unfold nodB
    rw [q2]
theorem mem_gone {vs : List aV} {f : Nat} {e : aE} : ∀ {n : Nat}, e ∈ goneW vs f n ↔ ∃ i, i < n ∧ pcIn vs f i = true ∧ e = ([2, f, i], none)
  | 0 => ⟨fun h => absurd h List.not_mem_nil, fun ⟨i, h, _⟩ => absurd h (Nat.not_lt_zero i)⟩
  | n + 1 => by
    show e ∈ goneW vs f n ++ (if pcIn vs f n = true then [([2, f, n], none)] else []) ↔ _
    rw [List.mem_append, mem_gone]
    constructor
    · rintro (⟨i, h1, h2, h3⟩ | h)
      · exact ⟨i, by omega, h2, h3⟩
      · by_cases q : pcIn vs f n = true
        · rw [if_pos q] at h
          exact ⟨n, by omega, q, List.mem_singleton.mp h⟩
        · rw [if_neg q] at h
          exact absurd h List.not_mem_nil
    · rintro ⟨i, h1, h2, h3⟩
      by_cases q : i = n
      · rw [q] at h2 h3
        right
        rw [if_pos h2]
        exact List.mem_singleton.mpr h3
      · exact Or.inl ⟨i, by omega, h2, h3⟩
theorem pc_lt {ky : List (List Nat)} {vs : List aV} {P f i : Nat} {c : Nat → Int8} {b : List Nat} (hV : ∀ v ∈ vs, VOk ky P v) (h : ValAt c vs [2, f, i] b) : i < 32 := by
  obtain ⟨v, n1, n2, -⟩ := h
  rcases (hV v n1.1).2.1 with ⟨k, q1, -⟩ | ⟨f', q1, -⟩ | ⟨f', i', q1, q2, q3, q4⟩
  · rw [n2] at q1; injection q1 with q1; exact absurd q1 (by decide)
  · rw [n2] at q1; injection q1 with q1; exact absurd q1 (by decide)
  · rw [n2] at q1
    injection q1 with _ q1
    injection q1 with _ q1
    injection q1 with q1 _
    omega
/-- the pieces of a file go -/
theorem PcR.gone {ky : List (List Nat)} {c c' : Nat → Int8} {vs vs' : List aV} {ws : List aE} {ps cur : List aPc} {f P : Nat} (h : PcR c vs ps) (hI : InV c c' vs vs' ws) (h1 : OneW ws) (hO : OneV vs) (hP : P ≤ 2 ^ 30) (hV : ∀ v ∈ vs, VOk ky P v) (hw : ∀ e : aE, e.1.headD 0 = 2 → (e ∈ ws ↔ e ∈ goneW vs f 32)) (hc : cur.Perm (ps.filterMap (cutE f 0))) : PcR c' vs' cur := by
  refine PcR.perm (fun g i b => ?_) hc.symm
  have hM : ∀ v ∈ vs, v.2.1 ≤ 2 ^ 30 := fun v hv => Nat.le_trans (hV v hv).1 hP
  have hmem : ∀ b8, ((g, i, b8) : aPc) ∈ ps.filterMap (cutE f 0) ↔ (g, i, b8) ∈ ps ∧ g ≠ f := fun b8 => by
    rw [List.mem_filterMap]
    constructor
    · rintro ⟨x, x1, x2⟩
      unfold cutE at x2
      by_cases e : x.1 = f
      · rw [if_pos e, if_pos (Nat.zero_le _)] at x2; exact absurd x2.symm (Option.some_ne_none _)
      · rw [if_neg e] at x2
        have x2 : x = (g, i, b8) := Option.some.inj x2
        rw [x2] at x1 e
        exact ⟨x1, e⟩
    · rintro ⟨x1, x2⟩
      refine ⟨_, x1, ?_⟩
      unfold cutE
      rw [if_neg x2]
  by_cases e : g = f
  · constructor
    · intro q
      by_cases hin : pcIn vs f i = true ∧ i < 32
      · have : (([2, f, i], none) : aE) ∈ ws := (hw _ rfl).mpr (mem_gone.mpr ⟨i, hin.2, hin.1, rfl⟩)
        rw [e] at q
        exact absurd q (hI.out h1 this)
      · have hno : ∀ x ∈ ws, ¬ x.1 = [2, g, i] := fun x hx ex => by
          obtain ⟨j, j1, j2, j3⟩ := mem_gone.mp ((hw x (by rw [ex]; rfl)).mp hx)
          rw [j3] at ex
          injection ex with _ ex
          injection ex with _ ex
          injection ex with ex _
          rw [ex] at j1 j2
          exact hin ⟨j2, j1⟩
        have q2 := (hI.same hno).mp q
        have q3 := pc_lt hV q2
        rw [e] at q2
        exact absurd ⟨((val_pc hO hM).mp q2).1, q3⟩ hin
    · rintro ⟨b8, q1, -⟩
      exact absurd e ((hmem b8).mp q1).2
  · have hno : ∀ x ∈ ws, ¬ x.1 = [2, g, i] := fun x hx ex => by
      obtain ⟨j, j1, j2, j3⟩ := mem_gone.mp ((hw x (by rw [ex]; rfl)).mp hx)
      rw [j3] at ex
      injection ex with _ ex
      injection ex with ex _
      exact e ex.symm
    rw [hI.same hno, h g i b]
    exact ⟨fun ⟨b8, q1, q2⟩ => ⟨b8, (hmem b8).mpr ⟨q1, e⟩, q2⟩, fun ⟨b8, q1, q2⟩ => ⟨b8, ((hmem b8).mp q1).1, q2⟩⟩
theorem OneP.gone {ps cur : List aPc} {f n : Nat} (h : OneP ps) (hc : cur.Perm (ps.filterMap (cutE f n))) : OneP cur := by
  refine OneP.perm ⟨?_, fun y hy => ?_⟩ hc.symm
  · refine List.Pairwise.filterMap (cutE f n) (fun a a' haa b hb b' hb' hbb => haa ?_) h.1
    have key : ∀ {a b : aPc}, cutE f n a = some b → b.1 = a.1 ∧ b.2.1 = a.2.1 := fun {a b} q => by
      unfold cutE at q
      split at q
      · split at q
        · exact absurd q.symm (Option.some_ne_none _)
        · rw [← Option.some.inj q]; exact ⟨rfl, rfl⟩
      · rw [Option.some.inj q]; exact ⟨rfl, rfl⟩
    obtain ⟨k1, k2⟩ := key hb
    obtain ⟨k3, k4⟩ := key hb'
    exact ⟨k1.symm.trans (hbb.1.trans k3), k2.symm.trans (hbb.2.trans k4)⟩
  · obtain ⟨x, x1, x2⟩ := List.mem_filterMap.mp hy
    have hx := h.2 x x1
    unfold cutE at x2
    split at x2
    · split at x2
      · exact absurd x2.symm (Option.some_ne_none _)
      · rw [← Option.some.inj x2]
        show 1 ≤ (x.2.2.take (n - 512 * x.2.1)).length
        rw [List.length_take]
        omega
    · rw [← Option.some.inj x2]; exact hx
