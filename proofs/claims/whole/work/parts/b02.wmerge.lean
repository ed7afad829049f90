/-! ===== what a merge puts out; class; by hand ===== -/
theorem bef_asym {a b : aT} (h : befE a b = true) : ¬ befE b a = true := by
  unfold befE at h ⊢
  rw [Bool.or_eq_true, Bool.and_eq_true, decide_eq_true_iff, decide_eq_true_iff, decide_eq_true_iff] at h ⊢
  rintro (q | ⟨q1, q2⟩)
  · rcases h with h | ⟨h1, h2⟩
    · exact cmpL_asym h q
    · rw [h1] at q; exact cmpL_irr q
  · rcases h with h | ⟨h1, h2⟩
    · rw [q1] at h; exact cmpL_irr h
    · omega
theorem bef_trans {a b c : aT} (h : befE a b = true) (h' : befE b c = true) : befE a c = true := by
  unfold befE at h h' ⊢
  rw [Bool.or_eq_true, Bool.and_eq_true, decide_eq_true_iff, decide_eq_true_iff, decide_eq_true_iff] at h h' ⊢
  rcases h with h | ⟨h1, h2⟩
  · rcases h' with q | ⟨q1, q2⟩
    · exact Or.inl (cmpL_trans h q)
    · exact Or.inl (by rw [← q1]; exact h)
  · rcases h' with q | ⟨q1, q2⟩
    · exact Or.inl (by rw [h1]; exact q)
    · exact Or.inr ⟨h1.trans q1, by omega⟩
theorem bef_tri {a b : aT} (h : ¬ befE a b = true) (h' : ¬ befE b a = true) : a.1 = b.1 ∧ a.2.1 = b.2.1 := by
  unfold befE at h h'
  rw [Bool.or_eq_true, Bool.and_eq_true, decide_eq_true_iff, decide_eq_true_iff, decide_eq_true_iff] at h h'
  by_cases e : a.1 = b.1
  · refine ⟨e, ?_⟩
    have h1 : ¬ b.2.1 < a.2.1 := fun q => h (Or.inr ⟨e, q⟩)
    have h2 : ¬ a.2.1 < b.2.1 := fun q => h' (Or.inr ⟨e.symm, q⟩)
    omega
  · exact absurd (Or.inl (cmpL_tri (fun q => h (Or.inl q)) e)) h'
theorem bef_same {a b c : aT} (h : befE a b = true) (h1 : b.1 = c.1) (h2 : b.2.1 = c.2.1) : befE a c = true := by
  unfold befE at h ⊢
  rw [← h1, ← h2]
  exact h
theorem bef_same' {a b c : aT} (h : befE a b = true) (h1 : a.1 = c.1) (h2 : a.2.1 = c.2.1) : befE c b = true := by
  unfold befE at h ⊢
  rw [← h1, ← h2]
  exact h
theorem bef_irr {a b : aT} (h1 : a.1 = b.1) (h2 : a.2.1 = b.2.1) : ¬ befE a b = true := by
  unfold befE
  rw [Bool.or_eq_true, Bool.and_eq_true, decide_eq_true_iff, decide_eq_true_iff, decide_eq_true_iff, h1]
  rintro (q | ⟨-, q⟩)
  · exact cmpL_irr q
  · omega
theorem bef_le {a b c : aT} (h : befE a b = true) (h' : ¬ befE c b = true) : befE a c = true := by
  by_cases q : befE b c = true
  · exact bef_trans h q
  · obtain ⟨e1, e2⟩ := bef_tri q h'
    exact bef_same h e1 e2
theorem le_bef {a b c : aT} (h : ¬ befE b a = true) (h' : befE b c = true) : befE a c = true := by
  by_cases q : befE a b = true
  · exact bef_trans q h'
  · obtain ⟨e1, e2⟩ := bef_tri q h
    exact bef_same' h' e1.symm e2.symm
theorem least_le {hd : Nat → Option aT} {f : Nat} : ∀ {n : Nat} {p : Nat × aT}, leastN hd f n = some p → ∀ c h, f ≤ c → c < f + n → hd c = some h → ¬ befE h p.2 = true ∧ (c < p.1 → befE p.2 h = true)
  | 0, p, h => by cases h
  | n + 1, p, h => by
    rw [leastN] at h
    intro c x hc1 hc2 hx
    cases h1 : hd (f + n) with
    | none =>
      rw [h1] at h
      have hcn : ¬ c = f + n := fun q => by rw [q, h1] at hx; cases hx
      exact least_le (n := n) h c x hc1 (by omega) hx
    | some e =>
      rw [h1] at h
      dsimp only at h
      cases h2 : leastN hd f n with
      | none =>
        rw [h2] at h
        dsimp only at h
        have hp := Option.some.inj h
        by_cases hcn : c = f + n
        · rw [hcn, h1] at hx
          rw [← hp, ← Option.some.inj hx]
          exact ⟨bef_irr rfl rfl, fun q => by rw [hcn] at q; exact absurd q (Nat.lt_irrefl _)⟩
        · exfalso
          have : ∀ m, leastN hd f m = none → ∀ c, f ≤ c → c < f + m → hd c = none := by
            intro m
            induction m with
            | zero => intro _ c a b; omega
            | succ m ih =>
              intro hm c a b
              rw [leastN] at hm
              cases q : hd (f + m) with
              | none =>
                rw [q] at hm
                by_cases e2 : c = f + m
                · rw [e2]; exact q
                · exact ih hm c a (by omega)
              | some z =>
                rw [q] at hm
                dsimp only at hm
                cases q2 : leastN hd f m with
                | none => rw [q2] at hm; cases hm
                | some z2 =>
                  rw [q2] at hm
                  dsimp only at hm
                  split at hm <;> cases hm
          rw [this n h2 c hc1 (by omega)] at hx
          cases hx
      | some q =>
        rw [h2] at h
        dsimp only at h
        have ih := least_le (n := n) h2
        have hm := least_mem (n := n) h2
        by_cases hb : befE e q.2 = true
        · rw [if_pos hb] at h
          have hp := Option.some.inj h
          rw [← hp]
          by_cases hcn : c = f + n
          · rw [hcn, h1] at hx
            rw [← Option.some.inj hx]
            exact ⟨bef_irr rfl rfl, fun z => by rw [hcn] at z; exact absurd z (Nat.lt_irrefl _)⟩
          · have i1 := ih c x hc1 (by omega) hx
            have i2 := bef_le hb i1.1
            exact ⟨bef_asym i2, fun _ => i2⟩
        · rw [if_neg hb] at h
          have hp := Option.some.inj h
          rw [← hp]
          by_cases hcn : c = f + n
          · rw [hcn, h1] at hx
            rw [← Option.some.inj hx]
            exact ⟨hb, fun z => by rw [hcn] at z; have := hm.2.1; omega⟩
          · exact ih c x hc1 (by omega) hx
theorem least_none {hd : Nat → Option aT} {f : Nat} : ∀ {n : Nat}, leastN hd f n = none → ∀ c, f ≤ c → c < f + n → hd c = none
  | 0, _, c, a, b => by omega
  | n + 1, h, c, a, b => by
    rw [leastN] at h
    cases q : hd (f + n) with
    | none =>
      rw [q] at h
      by_cases e2 : c = f + n
      · rw [e2]; exact q
      · exact least_none (n := n) h c a (by omega)
    | some z =>
      rw [q] at h
      dsimp only at h
      cases q2 : leastN hd f n with
      | none => rw [q2] at h; cases h
      | some z2 =>
        rw [q2] at h
        dsimp only at h
        split at h <;> cases h
/-- what is still before the cursors -/
def remL (ess : Nat → List aT) (ix : Nat → Nat) (f : Nat) : Nat → List aT
  | 0 => []
  | n + 1 => remL ess ix f n ++ (ess (f + n)).drop (ix (f + n))
theorem remL_congr {ess : Nat → List aT} {ix ix' : Nat → Nat} {f : Nat} : ∀ {n : Nat}, (∀ c, f ≤ c → c < f + n → ix' c = ix c) → remL ess ix' f n = remL ess ix f n
  | 0, _ => rfl
  | n + 1, h => by
    show remL ess ix' f n ++ _ = remL ess ix f n ++ _
    rw [remL_congr (n := n) (fun c a b => h c a (by omega)), h (f + n) (by omega) (by omega)]
theorem remL_mem {ess : Nat → List aT} {ix : Nat → Nat} {f : Nat} {x : aT} : ∀ {n : Nat}, x ∈ remL ess ix f n → ∃ c, f ≤ c ∧ c < f + n ∧ x ∈ (ess c).drop (ix c)
  | n + 1, h => by
    rcases List.mem_append.mp h with q | q
    · obtain ⟨c, a, b, e⟩ := remL_mem (n := n) q
      exact ⟨c, a, by omega, e⟩
    · exact ⟨f + n, by omega, by omega, q⟩
theorem remL_nil {ess : Nat → List aT} {ix : Nat → Nat} {f : Nat} : ∀ {n : Nat}, (∀ c, f ≤ c → c < f + n → mgHd ess ix c = none) → remL ess ix f n = []
  | 0, _ => rfl
  | n + 1, h => by
    have h1 : mgHd ess ix (f + n) = none := h (f + n) (by omega) (by omega)
    unfold mgHd at h1
    show remL ess ix f n ++ _ = []
    rw [remL_nil (n := n) (fun c a b => h c a (by omega)), List.drop_eq_nil_of_le (List.getElem?_eq_none_iff.mp h1)]
    rfl
theorem drop_get {es : List aT} {i : Nat} {e : aT} (h : es[i]? = some e) : es.drop i = e :: es.drop (i + 1) := by
  have hi := get_lt h
  rw [List.drop_eq_getElem_cons hi]
  rw [List.getElem?_eq_getElem hi] at h
  rw [Option.some.inj h]
/-- the entry that is taken, among those that are left -/
theorem rem_split {ess : Nat → List aT} {ix : Nat → Nat} {f c : Nat} {e : aT} : ∀ {n : Nat}, f ≤ c → c < f + n → mgHd ess ix c = some e → ∃ A B, remL ess ix f n = A ++ e :: B ∧ remL ess (va_up ix c (ix c + 1)) f n = A ++ B ∧ ∀ x ∈ A, ∃ b, f ≤ b ∧ b < c ∧ x ∈ (ess b).drop (ix b)
  | 0, a, b, _ => by omega
  | n + 1, a, b, h => by
    unfold mgHd at h
    by_cases q : c = f + n
    · refine ⟨remL ess ix f n, (ess c).drop (ix c + 1), ?_, ?_, fun x hx => ?_⟩
      · show remL ess ix f n ++ (ess (f + n)).drop (ix (f + n)) = _
        rw [← q, drop_get h]
      · show remL ess (va_up ix c (ix c + 1)) f n ++ (ess (f + n)).drop (va_up ix c (ix c + 1) (f + n)) = _
        rw [← q, up_at, remL_congr (n := n) (fun b b1 b2 => up_ne (by omega))]
      · obtain ⟨b, b1, b2, b3⟩ := remL_mem hx
        exact ⟨b, b1, by omega, b3⟩
    · obtain ⟨A, B, h1, h2, h3⟩ := rem_split (n := n) a (by omega) (show mgHd ess ix c = some e from h)
      refine ⟨A, B ++ (ess (f + n)).drop (ix (f + n)), ?_, ?_, h3⟩
      · show remL ess ix f n ++ _ = _
        rw [h1, List.append_assoc, List.cons_append]
      · show remL ess (va_up ix c (ix c + 1)) f n ++ _ = _
        rw [h2, up_ne (by omega), List.append_assoc]
/-- the order in which a merge goes over the entries -/
def mgOrd (ess : Nat → List aT) (f n : Nat) : (Nat → Nat) → Nat → List aT
  | _, 0 => []
  | ix, i + 1 => match leastN (mgHd ess ix) f n with
    | none => []
    | some p => p.2 :: mgOrd ess f n (va_up ix p.1 (ix p.1 + 1)) i
/-- what it keeps of them -/
def mgFil (vs : List aV) (wh : Bool) : List Nat → Nat → List aT → List aT
  | _, _, [] => []
  | lk, lm, e :: t => (if mgKeep vs wh lk lm e = true then [e] else []) ++ mgFil vs wh e.1 e.2.1 t
theorem mgRun_head {vs : List aV} {wh : Bool} {ess : Nat → List aT} {f n : Nat} {s : aMg} : ∀ i, mgRun vs wh ess f n s (i + 1) = mgRun vs wh ess f n (mgStep vs wh ess f n s) i
  | 0 => rfl
  | i + 1 => by
    show mgStep vs wh ess f n (mgRun vs wh ess f n s (i + 1)) = mgStep vs wh ess f n (mgRun vs wh ess f n (mgStep vs wh ess f n s) i)
    rw [mgRun_head i]
theorem mgRun_out {vs : List aV} {wh : Bool} {ess : Nat → List aT} {f n : Nat} : ∀ (i : Nat) (ix : Nat → Nat) (lk : List Nat) (lm : Nat) (out : List aT), (mgRun vs wh ess f n (ix, lk, lm, out) i).2.2.2 = out ++ mgFil vs wh lk lm (mgOrd ess f n ix i)
  | 0, ix, lk, lm, out => by
    show out = out ++ []
    rw [List.append_nil]
  | i + 1, ix, lk, lm, out => by
    rw [mgRun_head, mgOrd]
    cases h : leastN (mgHd ess ix) f n with
    | none =>
      have hs : mgStep vs wh ess f n (ix, lk, lm, out) = (ix, lk, lm, out) := by
        rw [mgStep, h]
      rw [hs]
      have := mgRun_end (vs := vs) (wh := wh) (ess := ess) (f := f) (n := n) (s := (ix, lk, lm, out)) (i := 0) h i
      rw [Nat.zero_add] at this
      rw [this]
      show out = out ++ []
      rw [List.append_nil]
    | some p =>
      have hs : mgStep vs wh ess f n (ix, lk, lm, out) = (va_up ix p.1 (ix p.1 + 1), p.2.1, p.2.2.1, if mgKeep vs wh lk lm p.2 = true then out ++ [p.2] else out) := by
        rw [mgStep, h]
      rw [hs, mgRun_out i]
      show _ = out ++ ((if mgKeep vs wh lk lm p.2 = true then [p.2] else []) ++ mgFil vs wh p.2.1 p.2.2.1 (mgOrd ess f n (va_up ix p.1 (ix p.1 + 1)) i))
      rw [← List.append_assoc]
      congr 1
      split
      · rfl
      · rw [List.append_nil]
theorem drop_sort {es : List aT} {i : Nat} {h x : aT} (hs : SortE es) (hh : es[i]? = some h) (hx : x ∈ es.drop i) : x = h ∨ befE h x = true := by
  rw [drop_get hh] at hx
  rcases List.mem_cons.mp hx with q | q
  · exact Or.inl q
  · refine Or.inr ?_
    have h1 : SortE (es.drop i) := List.Pairwise.sublist (List.drop_sublist i es) hs
    rw [drop_get hh] at h1
    exact (List.pairwise_cons.mp h1).1 x q
/-- the taken one is the first of those that are left -/
theorem take_first {ess : Nat → List aT} {ix : Nat → Nat} {f n : Nat} {p : Nat × aT} (hs : ∀ c, f ≤ c → c < f + n → SortE (ess c)) (h : leastN (mgHd ess ix) f n = some p) : ∃ A B, remL ess ix f n = A ++ p.2 :: B ∧ remL ess (va_up ix p.1 (ix p.1 + 1)) f n = A ++ B ∧ (∀ x ∈ A, befE p.2 x = true) ∧ ∀ x ∈ A ++ B, ¬ befE x p.2 = true := by
  obtain ⟨m1, m2, m3⟩ := least_mem h
  have hle := least_le h
  have hall : ∀ x ∈ remL ess ix f n, ¬ befE x p.2 = true := fun x hx q => by
    obtain ⟨c, c1, c2, c3⟩ := remL_mem hx
    have hlt : ix c < (ess c).length := by
      refine Nat.lt_of_not_le (fun z => ?_)
      rw [List.drop_eq_nil_of_le z] at c3
      exact absurd c3 List.not_mem_nil
    have hg : (ess c)[ix c]? = some (ess c)[ix c] := List.getElem?_eq_getElem hlt
    have l1 := hle c _ c1 c2 hg
    rcases drop_sort (hs c c1 c2) hg c3 with z | z
    · rw [z] at q; exact l1.1 q
    · exact l1.1 (bef_trans z q)
  obtain ⟨A, B, h1, h2, h3⟩ := rem_split m1 m2 m3
  refine ⟨A, B, h1, h2, fun x hx => ?_, fun x hx => hall x ?_⟩
  · obtain ⟨b, b1, b2, b3⟩ := h3 x hx
    have hlt : ix b < (ess b).length := by
      refine Nat.lt_of_not_le (fun z => ?_)
      rw [List.drop_eq_nil_of_le z] at b3
      exact absurd b3 List.not_mem_nil
    have hg : (ess b)[ix b]? = some (ess b)[ix b] := List.getElem?_eq_getElem hlt
    have l1 := (hle b _ b1 (by omega) hg).2 b2
    rcases drop_sort (hs b b1 (by omega)) hg b3 with z | z
    · rw [z]; exact l1
    · exact bef_trans l1 z
  · rw [h1]
    rcases List.mem_append.mp hx with q | q
    · exact List.mem_append.mpr (Or.inl q)
    · exact List.mem_append.mpr (Or.inr (List.mem_cons_of_mem _ q))
theorem fst_del {A B : List aT} {p e : aT} (h : FstE (A ++ p :: B) e) (hp : ¬ (p.1 = e.1 ∧ p.2.1 = e.2.1)) : FstE (A ++ B) e := by
  induction A with
  | nil => exact FstE.cut (l := [p]) h (fun x hx => by rw [List.mem_singleton.mp hx]; exact hp)
  | cons a A ih =>
    obtain ⟨l1, l2, h1, h2⟩ := h
    cases l1 with
    | nil =>
      have : a = e := (List.cons.inj h1).1
      exact ⟨[], A ++ B, by rw [← this]; rfl, fun y hy => absurd hy List.not_mem_nil⟩
    | cons y m =>
      have h3 : FstE (A ++ p :: B) e := ⟨m, l2, (List.cons.inj h1).2, fun z hz => h2 z (List.mem_cons_of_mem _ hz)⟩
      have hy : a = y := (List.cons.inj h1).1
      exact FstE.right (l := [a]) (ih h3) (fun z hz => by rw [List.mem_singleton.mp hz, hy]; exact h2 y List.mem_cons_self)
/-- each entry once, in their order, of one key and moment the first first -/
theorem ord_spec {ess : Nat → List aT} {f n : Nat} (hs : ∀ c, f ≤ c → c < f + n → SortE (ess c)) : ∀ (i : Nat) (ix : Nat → Nat), (remL ess ix f n).length ≤ i → (mgOrd ess f n ix i).Perm (remL ess ix f n) ∧ (mgOrd ess f n ix i).Pairwise (fun a b => ¬ befE b a = true) ∧ ∀ e, FstE (remL ess ix f n) e → FstE (mgOrd ess f n ix i) e
  | 0, ix, h => by
    have h0 : remL ess ix f n = [] := List.eq_nil_of_length_eq_zero (Nat.le_zero.mp h)
    rw [h0]
    exact ⟨List.Perm.refl _, List.Pairwise.nil, fun e he => he⟩
  | i + 1, ix, h => by
    rw [mgOrd]
    cases hl : leastN (mgHd ess ix) f n with
    | none =>
      rw [remL_nil (least_none hl)]
      exact ⟨List.Perm.refl _, List.Pairwise.nil, fun e he => he⟩
    | some p =>
      obtain ⟨A, B, h1, h2, h3, h4⟩ := take_first hs hl
      have hlen : (remL ess (va_up ix p.1 (ix p.1 + 1)) f n).length ≤ i := by
        rw [h1, List.length_append, List.length_cons] at h
        rw [h2, List.length_append]
        omega
      obtain ⟨r1, r2, r3⟩ := ord_spec hs i _ hlen
      rw [h2] at r1 r3
      rw [h1]
      dsimp only
      refine ⟨(List.Perm.cons p.2 r1).trans List.perm_middle.symm, List.pairwise_cons.mpr ⟨fun x hx => h4 x (r1.mem_iff.mp hx), r2⟩, fun e he => ?_⟩
      by_cases hk : p.2.1 = e.1 ∧ p.2.2.1 = e.2.1
      · have hpf : FstE (A ++ p.2 :: B) p.2 := FstE.right (l := A) ⟨[], B, rfl, fun y hy => absurd hy List.not_mem_nil⟩ (fun x hx q => bef_irr q.1.symm q.2.symm (h3 x hx))
        rw [hpf.one he hk.1 hk.2]
        exact ⟨[], _, rfl, fun y hy => absurd hy List.not_mem_nil⟩
      · exact FstE.right (l := [p.2]) (r3 e (fst_del he hk)) (fun x hx => by rw [List.mem_singleton.mp hx]; exact hk)
theorem fil_sub {vs : List aV} {wh : Bool} : ∀ (O : List aT) (lk : List Nat) (lm : Nat), (mgFil vs wh lk lm O).Sublist O
  | [], _, _ => List.Sublist.refl _
  | e :: t, lk, lm => by
    rw [mgFil]
    split
    · exact List.Sublist.cons₂ e (fil_sub t e.1 e.2.1)
    · exact List.Sublist.cons e (fil_sub t e.1 e.2.1)
theorem keep_new {vs : List aV} {wh : Bool} {lk : List Nat} {lm : Nat} {e : aT} (h : mgKeep vs wh lk lm e = true) : ¬ (lk = e.1 ∧ lm = e.2.1) := by
  rintro ⟨q1, q2⟩
  unfold mgKeep at h
  rw [decide_eq_true q1, decide_eq_true q2] at h
  generalize tellsV vs e = a at h
  generalize hidesV vs e = b at h
  cases a <;> cases wh <;> cases b <;> exact Bool.noConfusion h
theorem fil_bef {vs : List aV} {wh : Bool} : ∀ (O : List aT) (z : aT), O.Pairwise (fun a b => ¬ befE b a = true) → (∀ x ∈ O, ¬ befE x z = true) → (∀ e ∈ mgFil vs wh z.1 z.2.1 O, befE z e = true) ∧ SortE (mgFil vs wh z.1 z.2.1 O)
  | [], _, _, _ => ⟨fun e he => absurd he List.not_mem_nil, List.Pairwise.nil⟩
  | x :: t, z, hp, hz => by
    obtain ⟨hp1, hp2⟩ := List.pairwise_cons.mp hp
    obtain ⟨i1, i2⟩ := fil_bef (vs := vs) (wh := wh) t x hp2 hp1
    have hzx := hz x List.mem_cons_self
    have hz2 : ∀ e ∈ mgFil vs wh x.1 x.2.1 t, befE z e = true := fun e he => le_bef hzx (i1 e he)
    rw [mgFil]
    split
    · rename_i hk
      have hn := keep_new hk
      have hb : befE z x = true := by
        by_cases q : befE z x = true
        · exact q
        · exact absurd (bef_tri q hzx) hn
      refine ⟨fun e he => ?_, List.pairwise_cons.mpr ⟨i1, i2⟩⟩
      rcases List.mem_cons.mp he with q | q
      · rw [q]; exact hb
      · exact hz2 e q
    · exact ⟨fun e he => hz2 e he, i2⟩
theorem fil_tells {vs : List aV} {wh : Bool} {e : aT} (ht : tellsV vs e = true) : ∀ (O : List aT) (lk : List Nat) (lm : Nat), ¬ (lk = e.1 ∧ lm = e.2.1) → FstE O e → e ∈ mgFil vs wh lk lm O
  | [], _, _, _, h => absurd h.mem List.not_mem_nil
  | x :: t, lk, lm, hn, h => by
    rw [mgFil]
    by_cases hk : x.1 = e.1 ∧ x.2.1 = e.2.1
    · have hx : x = e := FstE.one (es := x :: t) ⟨[], t, rfl, fun y hy => absurd hy List.not_mem_nil⟩ h hk.1 hk.2
      have hkp : mgKeep vs wh lk lm x = true := by
        unfold mgKeep
        rw [hx, ht, Bool.true_and, Bool.or_eq_true]
        left
        by_cases q : lk = e.1
        · rw [decide_eq_false (fun r => hn ⟨q, r⟩), Bool.and_false]; rfl
        · rw [decide_eq_false q, Bool.false_and]; rfl
      rw [if_pos hkp, hx]
      exact List.mem_append.mpr (Or.inl (List.mem_singleton.mpr rfl))
    · exact List.mem_append.mpr (Or.inr (fil_tells ht t x.1 x.2.1 hk (FstE.cut (l := [x]) h (fun y hy => by rw [List.mem_singleton.mp hy]; exact hk))))
theorem fil_hides {vs : List aV} {e : aT} (ht : hidesV vs e = true) : ∀ (O : List aT) (lk : List Nat) (lm : Nat), O.Pairwise (fun a b => ¬ befE b a = true) → ¬ lk = e.1 → WinE O e → e ∈ mgFil vs false lk lm O
  | [], _, _, _, _, h => absurd h.1.mem List.not_mem_nil
  | x :: t, lk, lm, hp, hn, h => by
    obtain ⟨hp1, hp2⟩ := List.pairwise_cons.mp hp
    rw [mgFil]
    by_cases hk : x.1 = e.1 ∧ x.2.1 = e.2.1
    · have hx : x = e := FstE.one (es := x :: t) ⟨[], t, rfl, fun y hy => absurd hy List.not_mem_nil⟩ h.1 hk.1 hk.2
      have hkp : mgKeep vs false lk lm x = true := by
        unfold mgKeep
        rw [hx, ht, decide_eq_false hn]
        cases tellsV vs e <;> rfl
      rw [if_pos hkp, hx]
      exact List.mem_append.mpr (Or.inl (List.mem_singleton.mpr rfl))
    · have hc := FstE.cut (l := [x]) h.1 (fun y hy => by rw [List.mem_singleton.mp hy]; exact hk)
      refine List.mem_append.mpr (Or.inr (fil_hides ht t x.1 x.2.1 hp2 (fun q => ?_) ⟨hc, fun y hy => h.2 y (List.mem_cons_of_mem _ hy)⟩))
      have m1 := h.2 x List.mem_cons_self q
      have m2 := hp1 e hc.mem
      unfold befE at m2
      rw [Bool.or_eq_true, Bool.and_eq_true, decide_eq_true_iff, decide_eq_true_iff, decide_eq_true_iff] at m2
      exact m2 (Or.inr ⟨q.symm, by have : ¬ x.2.1 = e.2.1 := fun r => hk ⟨q, r⟩; omega⟩)
theorem fil_mem {vs : List aV} {wh : Bool} {e : aT} : ∀ (O : List aT) (lk : List Nat) (lm : Nat), e ∈ mgFil vs wh lk lm O → tellsV vs e = true ∨ (wh = false ∧ hidesV vs e = true)
  | x :: t, lk, lm, h => by
    rw [mgFil] at h
    rcases List.mem_append.mp h with q | q
    · split at q
      · rename_i hk
        rw [List.mem_singleton.mp q]
        unfold mgKeep at hk
        rw [Bool.or_eq_true, Bool.and_eq_true, Bool.and_eq_true, Bool.and_eq_true] at hk
        rcases hk with r | r
        · exact Or.inl r.1
        · refine Or.inr ⟨?_, r.2.2⟩
          cases wh with
          | false => rfl
          | true => exact Bool.noConfusion r.1
      · exact absurd q List.not_mem_nil
    · exact fil_mem t x.1 x.2.1 q
theorem seen_nw {vs : List aV} {k : List Nat} {m : Nat} {v : aV} (h : seenV vs k m = some v) : v ∈ vs ∧ v.1 = k := by
  unfold seenV at h
  have h2 := List.find?_some h
  rw [Bool.and_eq_true, decide_eq_true_iff] at h2
  exact ⟨List.mem_of_find?_eq_some h, h2.1⟩
theorem seen_at {vs : List aV} (h1 : OneV vs) {v : aV} (hv : v ∈ vs) : seenV vs v.1 v.2.1 = some v := by
  have hst : stK (kmV vs) v.1 v.2.1 v.2.1 = true := stK_iff.mpr ⟨Nat.le_refl _, fun b _ hb => hb⟩
  cases hs : seenV vs v.1 v.2.1 with
  | none =>
    unfold seenV at hs
    have := List.find?_eq_none.mp hs v hv
    rw [decide_eq_true rfl, hst] at this
    exact absurd rfl this
  | some u =>
    obtain ⟨u1, u2⟩ := seen_nw hs
    unfold seenV at hs
    have h3 := List.find?_some hs
    rw [Bool.and_eq_true] at h3
    have h4 := stK_iff.mp h3.2
    have h5 : ¬ u.2.1 < v.2.1 := fun q => by
      have := h4.2 v.2.1 (mem_km.mpr ⟨v, hv, u2.symm, rfl⟩) q
      omega
    have h6 := h4.1
    rw [h1 u u1 v hv u2 (by omega)]
theorem tells_ent {vs : List aV} (h1 : OneV vs) {v : aV} (hv : v ∈ vs) (hb : v.2.2.2.2 = false) : tellsV vs (entV v) = true := by
  unfold tellsV
  have e1 : seenV vs (entV v).1 (entV v).2.1 = some v := seen_at h1 hv
  rw [e1]
  show (decide (v.2.1 = v.2.1) && (decide (v.2.2.2.1 = v.2.2.2.1) && (!v.2.2.2.2 && (decide (v.2.2.2.1 = none) || decide (v.2.2.1 = if v.2.2.2.1 = none then 0 else v.2.2.1))))) = true
  rw [hb, decide_eq_true rfl, decide_eq_true rfl, Bool.true_and, Bool.true_and]
  by_cases q : v.2.2.2.1 = none
  · rw [decide_eq_true q]; rfl
  · rw [if_neg q, decide_eq_true (rfl : v.2.2.1 = v.2.2.1), Bool.or_true]; rfl
/-- memory and tables agree behind a merge: of M only what is in out is left -/
theorem WTab.merge {vs : List aV} {A M C out : List aT} {wh : Bool} (h : WTab vs (A ++ (M ++ C))) (h1 : OneV vs) (hin : ∀ x ∈ out, x ∈ M) (hso : SortE out) (ht : ∀ e, FstE M e → tellsV vs e = true → e ∈ out) (hh : wh = false → ∀ e, WinE M e → hidesV vs e = true → e ∈ out) (hw : wh = true → A = [] ∧ C = [] ∧ ∀ e ∈ out, tellsV vs e = true) : WTab vs (A ++ (out ++ C)) := by
  obtain ⟨a1, a2, a3⟩ := h
  have hone : ∀ e ∈ out, FstE out e := fun e he => fst_of he (fun x hx q1 q2 => by
    by_cases hxe : x = e
    · exact hxe
    · exfalso
      have : ∀ (l : List aT), SortE l → x ∈ l → e ∈ l → befE x e = true ∨ befE e x = true := by
        intro l
        induction l with
        | nil => intro _ hx _; exact absurd hx List.not_mem_nil
        | cons y t ih =>
          intro hs hx he
          obtain ⟨s1, s2⟩ := List.pairwise_cons.mp hs
          rcases List.mem_cons.mp hx with r1 | r1
          · rcases List.mem_cons.mp he with r2 | r2
            · exact absurd (r1.trans r2.symm) hxe
            · rw [r1]; exact Or.inl (s1 e r2)
          · rcases List.mem_cons.mp he with r2 | r2
            · rw [r2]; exact Or.inr (s1 x r1)
            · exact ih s2 r1 r2
      rcases this out hso hx he with r | r
      · exact bef_irr q1 q2 r
      · exact bef_irr q1.symm q2.symm r)
  have hsub : ∀ x ∈ A ++ (out ++ C), x ∈ A ++ (M ++ C) := fun x hx => by
    rcases List.mem_append.mp hx with q | q
    · exact List.mem_append.mpr (Or.inl q)
    · rcases List.mem_append.mp q with r | r
      · exact List.mem_append.mpr (Or.inr (List.mem_append.mpr (Or.inl (hin x r))))
      · exact List.mem_append.mpr (Or.inr (List.mem_append.mpr (Or.inr r)))
  have hkey : ∀ e, FstE (A ++ (M ++ C)) e → (FstE M e → (∀ x ∈ M ++ C, x ∈ A ++ (M ++ C)) → e ∈ out) → FstE (A ++ (out ++ C)) e := fun e he hm => by
    by_cases qA : ∃ x ∈ A, x.1 = e.1 ∧ x.2.1 = e.2.1
    · obtain ⟨x, x1, x2, x3⟩ := qA
      obtain ⟨g, g1, g2, g3⟩ := fst_ex x1
      have : g = e := (FstE.left g1).one he (g2.trans x2) (g3.trans x3)
      rw [this] at g1
      exact FstE.left g1
    · have he2 := he.cut (fun x hx q => qA ⟨x, hx, q⟩)
      refine FstE.right ?_ (fun x hx q => qA ⟨x, hx, q⟩)
      by_cases qM : ∃ x ∈ M, x.1 = e.1 ∧ x.2.1 = e.2.1
      · obtain ⟨x, x1, x2, x3⟩ := qM
        obtain ⟨g, g1, g2, g3⟩ := fst_ex x1
        have : g = e := (FstE.left g1).one he2 (g2.trans x2) (g3.trans x3)
        rw [this] at g1
        exact FstE.left (hone e (hm g1 (fun y hy => List.mem_append.mpr (Or.inr hy))))
      · exact FstE.right (he2.cut (fun x hx q => qM ⟨x, hx, q⟩)) (fun x hx q => qM ⟨x, hin x hx, q⟩)
  refine ⟨fun v hv hb => hkey _ (a1 v hv hb) (fun q _ => ht _ q (tells_ent h1 hv hb)), fun e he => a2 e (hsub e he), fun e he hno => ?_⟩
  obtain ⟨g, g1, g2, g3⟩ := win_ex (hsub e he.1.mem)
  have hgo : g.2.2.2 = none := a3 g g1 (fun v hv q => hno v hv (q.trans g2))
  have hgf : FstE (A ++ (out ++ C)) g := by
    refine hkey g g1.1 (fun q hMC => ?_)
    cases hwb : wh with
    | false =>
      refine hh hwb g ⟨q, fun x hx => g1.2 x (hMC x (List.mem_append.mpr (Or.inl hx)))⟩ ?_
      unfold hidesV
      rw [decide_eq_true hgo, Bool.true_and]
      cases hs : seenV vs g.1 (2 ^ 30) with
      | none => rfl
      | some u =>
        obtain ⟨u1, u2⟩ := seen_nw hs
        exact absurd (u2.trans g2) (hno u u1)
    | true =>
      exfalso
      obtain ⟨w1, w2, w3⟩ := hw hwb
      have hin2 : e ∈ out := by
        have := he.1.mem
        rw [w1, w2, List.nil_append, List.append_nil] at this
        exact this
      have := w3 e hin2
      unfold tellsV at this
      cases hs : seenV vs e.1 e.2.1 with
      | none => rw [hs] at this; exact Bool.noConfusion this
      | some u =>
        obtain ⟨u1, u2⟩ := seen_nw hs
        exact hno u u1 u2
  have m1 := he.2 g hgf.mem g2
  rw [he.1.one hgf g2.symm (by omega)]
  exact hgo
