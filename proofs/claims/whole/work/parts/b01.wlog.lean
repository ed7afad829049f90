/-! ===== what the chip tells is what memory knows; class; by hand ===== -/
/-- an entry as a version -/
def tV (e : aT) : aV := (e.1, e.2.1, e.2.2.1, e.2.2.2, false)
theorem mem_meet {v w : aV} : ∀ {vs : List aV}, SS vs → (w ∈ meetV v vs ↔ (¬ w.1 = v.1 ∧ w ∈ vs) ∨ (w.1 = v.1 ∧ ((w ∈ vs ∧ v.2.1 ≤ w.2.1) ∨ (w = v ∧ ∀ u ∈ vs, u.1 = v.1 → u.2.1 < v.2.1))))
  | [], _ => by
    rw [meetV, List.mem_singleton]
    constructor
    · intro h
      exact Or.inr ⟨by rw [h], Or.inr ⟨h, fun u hu => absurd hu List.not_mem_nil⟩⟩
    · rintro (⟨-, h⟩ | ⟨-, ⟨h, -⟩ | ⟨h, -⟩⟩)
      · exact absurd h List.not_mem_nil
      · exact absurd h List.not_mem_nil
      · exact h
  | w0 :: t, hs => by
    obtain ⟨hs1, hs2⟩ := List.pairwise_cons.mp hs
    rw [meetV]
    by_cases c1 : cmpL w0.1 v.1 < 0
    · have hne : ¬ w0.1 = v.1 := fun e => by rw [e] at c1; exact cmpL_irr c1
      rw [if_pos c1, List.mem_cons, mem_meet (vs := t) hs2, List.mem_cons]
      constructor
      · rintro (h | ⟨h1, h2⟩ | ⟨h1, ⟨h2, h3⟩ | ⟨h2, h3⟩⟩)
        · exact Or.inl ⟨by rw [h]; exact hne, Or.inl h⟩
        · exact Or.inl ⟨h1, Or.inr h2⟩
        · exact Or.inr ⟨h1, Or.inl ⟨Or.inr h2, h3⟩⟩
        · exact Or.inr ⟨h1, Or.inr ⟨h2, fun u hu hk => by
            rcases List.mem_cons.mp hu with e | e
            · rw [e] at hk; exact absurd hk hne
            · exact h3 u e hk⟩⟩
      · rintro (⟨h1, h2 | h2⟩ | ⟨h1, ⟨h2 | h2, h3⟩ | ⟨h2, h3⟩⟩)
        · exact Or.inl h2
        · exact Or.inr (Or.inl ⟨h1, h2⟩)
        · rw [h2] at h1; exact absurd h1 hne
        · exact Or.inr (Or.inr ⟨h1, Or.inl ⟨h2, h3⟩⟩)
        · exact Or.inr (Or.inr ⟨h1, Or.inr ⟨h2, fun u hu => h3 u (List.mem_cons_of_mem _ hu)⟩⟩)
    · rw [if_neg c1]
      by_cases c2 : w0.1 = v.1
      · rw [if_pos c2]
        have ht : ∀ u ∈ t, ¬ u.1 = v.1 := fun u hu e => by
          have := hs1 u hu
          rw [c2, e] at this
          exact cmpL_irr this
        by_cases c3 : v.2.1 ≤ w0.2.1
        · rw [if_pos c3, List.mem_cons]
          constructor
          · rintro (h | h)
            · exact Or.inr ⟨by rw [h]; exact c2, Or.inl ⟨Or.inl h, by rw [h]; exact c3⟩⟩
            · exact Or.inl ⟨ht w h, Or.inr h⟩
          · rintro (⟨-, h⟩ | ⟨-, ⟨h, -⟩ | ⟨h, h3⟩⟩)
            · exact h
            · exact h
            · exact absurd (h3 w0 List.mem_cons_self c2) (by omega)
        · rw [if_neg c3, List.mem_cons, List.mem_cons]
          constructor
          · rintro (h | h)
            · exact Or.inr ⟨by rw [h], Or.inr ⟨h, fun u hu hk => by
                rcases List.mem_cons.mp hu with e | e
                · rw [e]; omega
                · exact absurd hk (ht u e)⟩⟩
            · exact Or.inl ⟨ht w h, Or.inr h⟩
          · rintro (⟨h1, h | h⟩ | ⟨h1, ⟨h | h, h3⟩ | ⟨h, -⟩⟩)
            · rw [h] at h1; exact absurd c2 h1
            · exact Or.inr h
            · rw [h] at h3; exact absurd h3 c3
            · exact absurd h1 (ht w h)
            · exact Or.inl h
      · rw [if_neg c2]
        have c4 := cmpL_tri c1 c2
        have ht : ∀ u ∈ w0 :: t, ¬ u.1 = v.1 := fun u hu e => by
          rcases List.mem_cons.mp hu with q | q
          · rw [q] at e; exact c2 e
          · have := cmpL_trans c4 (hs1 u q)
            rw [e] at this
            exact cmpL_irr this
        rw [List.mem_cons]
        constructor
        · rintro (h | h)
          · exact Or.inr ⟨by rw [h], Or.inr ⟨h, fun u hu hk => absurd hk (ht u hu)⟩⟩
          · exact Or.inl ⟨ht w h, h⟩
        · rintro (⟨-, h⟩ | ⟨h1, ⟨h, -⟩ | ⟨h, -⟩⟩)
          · exact Or.inr h
          · exact absurd h1 (ht w h)
          · exact Or.inl h
theorem winE_snoc {es : List aT} {e x : aT} : WinE (es ++ [e]) x ↔ (¬ x.1 = e.1 ∧ WinE es x) ∨ (x.1 = e.1 ∧ ((WinE es x ∧ e.2.1 ≤ x.2.1) ∨ (x = e ∧ ∀ y ∈ es, y.1 = e.1 → y.2.1 < e.2.1))) := by
  constructor
  · rintro ⟨h1, h2⟩
    by_cases hx : ∃ y ∈ es, y.1 = x.1 ∧ y.2.1 = x.2.1
    · obtain ⟨y, hy, y1, y2⟩ := hx
      obtain ⟨f, f1, f2, f3⟩ := fst_ex hy
      have hfx : f = x := (FstE.left (es := [e]) f1).one h1 (f2.trans y1) (f3.trans y2)
      rw [hfx] at f1
      have hw : WinE es x := ⟨f1, fun z hz => h2 z (List.mem_append.mpr (Or.inl hz))⟩
      by_cases hk : x.1 = e.1
      · exact Or.inr ⟨hk, Or.inl ⟨hw, h2 e (List.mem_append.mpr (Or.inr (List.mem_singleton.mpr rfl))) hk.symm⟩⟩
      · exact Or.inl ⟨hk, hw⟩
    · have hc := h1.cut (fun y hy q => hx ⟨y, hy, q⟩)
      have hxe : x = e := List.mem_singleton.mp hc.mem
      subst hxe
      refine Or.inr ⟨rfl, Or.inr ⟨rfl, fun y hy hk => ?_⟩⟩
      have := h2 y (List.mem_append.mpr (Or.inl hy)) hk
      have : ¬ y.2.1 = x.2.1 := fun q => hx ⟨y, hy, hk, q⟩
      omega
  · rintro (⟨h1, h2⟩ | ⟨h1, ⟨h2, h3⟩ | ⟨h2, h3⟩⟩)
    · exact ⟨h2.1.left, fun y hy hk => (List.mem_append.mp hy).elim (fun q => h2.2 y q hk) (fun q => by rw [List.mem_singleton.mp q] at hk; exact absurd hk.symm h1)⟩
    · exact ⟨h2.1.left, fun y hy hk => (List.mem_append.mp hy).elim (fun q => h2.2 y q hk) (fun q => by rw [List.mem_singleton.mp q]; exact h3)⟩
    · subst h2
      refine ⟨FstE.right (fst_of (List.mem_singleton.mpr rfl) (fun y hy _ _ => List.mem_singleton.mp hy)) (fun y hy q => ?_), fun y hy hk => (List.mem_append.mp hy).elim (fun q => Nat.le_of_lt (h3 y q hk)) (fun q => by rw [List.mem_singleton.mp q]; exact Nat.le_refl _)⟩
      have := h3 y hy q.1
      omega
theorem foldE_spec : ∀ (es2 es1 : List aT) (vs : List aV), SS vs → (∀ w, w ∈ vs ↔ ∃ e, WinE es1 e ∧ w = tV e) → ∀ w, w ∈ es2.foldl meetE vs ↔ ∃ e, WinE (es1 ++ es2) e ∧ w = tV e
  | [], es1, vs, _, h, w => by rw [List.append_nil]; exact h w
  | e :: t, es1, vs, hs, h, w => by
    rw [show es1 ++ e :: t = (es1 ++ [e]) ++ t by rw [List.append_assoc]; rfl]
    refine foldE_spec t (es1 ++ [e]) (meetE vs e) (meetV_ss hs) (fun w => ?_) w
    show w ∈ meetV (tV e) vs ↔ _
    rw [mem_meet hs]
    constructor
    · rintro (⟨h1, h2⟩ | ⟨h1, ⟨h2, h3⟩ | ⟨h2, h3⟩⟩)
      · obtain ⟨x, x1, x2⟩ := (h w).mp h2
        exact ⟨x, winE_snoc.mpr (Or.inl ⟨fun q => h1 (by rw [x2]; exact q), x1⟩), x2⟩
      · obtain ⟨x, x1, x2⟩ := (h w).mp h2
        exact ⟨x, winE_snoc.mpr (Or.inr ⟨by rw [x2] at h1; exact h1, Or.inl ⟨x1, by rw [x2] at h3; exact h3⟩⟩), x2⟩
      · refine ⟨e, winE_snoc.mpr (Or.inr ⟨rfl, Or.inr ⟨rfl, fun y hy hk => ?_⟩⟩), h2⟩
        obtain ⟨f, f1, f2, f3⟩ := win_ex hy
        have h4 : f.2.1 < e.2.1 := h3 (tV f) ((h (tV f)).mpr ⟨f, f1, rfl⟩) (f2.trans hk)
        omega
    · rintro ⟨x, x1, x2⟩
      rcases winE_snoc.mp x1 with ⟨h1, h2⟩ | ⟨h1, ⟨h2, h3⟩ | ⟨h2, h3⟩⟩
      · exact Or.inl ⟨by rw [x2]; exact h1, (h w).mpr ⟨x, h2, x2⟩⟩
      · exact Or.inr ⟨by rw [x2]; exact h1, Or.inl ⟨(h w).mpr ⟨x, h2, x2⟩, by rw [x2]; exact h3⟩⟩
      · refine Or.inr ⟨by rw [x2]; exact h1, Or.inr ⟨by rw [x2, h2], fun u hu hk => ?_⟩⟩
        obtain ⟨y, y1, y2⟩ := (h u).mp hu
        rw [y2] at hk ⊢
        exact h3 y y1.1.mem hk
theorem foldE_mem {es : List aT} {w : aV} : w ∈ es.foldl meetE [] ↔ ∃ e, WinE es e ∧ w = tV e := foldE_spec es [] [] List.Pairwise.nil (fun w => ⟨fun h => absurd h List.not_mem_nil, fun ⟨_, h, _⟩ => absurd h.1.mem List.not_mem_nil⟩) w
/-- the versions of a change, a change with where its mark lies, its records -/
def verB (m : Nat) (Q : Nat → Nat) : Nat → List aE → List aV
  | _, [] => []
  | j, e :: ws => (e.1, m, Q j, e.2.map List.length, true) :: verB m Q (j + 1) ws
abbrev aCh : Type := Nat × (Nat → Nat) × List aE × Nat
def chX (x : aCh) : List (Nat × aRd) := adB x.1 x.2.1 0 x.2.2.1 ++ [(x.2.2.2, doneR x.2.2.1.length x.1)]
def chV (x : aCh) : List aV := verB x.1 x.2.1 0 x.2.2.1
def meetW (vs : List aV) (v : aV) : List aV := meetV v vs
theorem adB_len {m : Nat} {Q : Nat → Nat} : ∀ (ws : List aE) (j : Nat), (adB m Q j ws).length = ws.length
  | [], _ => rfl
  | _ :: ws, j => congrArg (· + 1) (adB_len ws (j + 1))
theorem recE_kind {m : Nat} {e : aE} : ¬ (recE m e).1 = 3 ∧ (recE m e).1 ≠ 4 := by
  obtain ⟨k, v⟩ := e
  cases v with
  | none => exact ⟨by show ¬ 2 = 3; decide, by show 2 ≠ 4; decide⟩
  | some l => exact ⟨by show ¬ 1 = 3; decide, by show 1 ≠ 4; decide⟩
theorem rp_ad {m : Nat} {Q : Nat → Nat} : ∀ (ws : List aE) (j : Nat) (p : List (Nat × aRd)) (m0 : Nat) (vs : List aV), p.length + ws.length ≤ 40 → (adB m Q j ws).foldl rpS (p, m0, vs) = (p ++ adB m Q j ws, m0, vs)
  | [], _, p, m0, vs, _ => by
    show (p, m0, vs) = (p ++ [], m0, vs)
    rw [List.append_nil]
  | e :: ws, j, p, m0, vs, h => by
    rw [List.length_cons] at h
    show (adB m Q (j + 1) ws).foldl rpS (rpS (p, m0, vs) (Q j, recE m e)) = _
    have hs : rpS (p, m0, vs) (Q j, recE m e) = (p ++ [(Q j, recE m e)], m0, vs) := by
      show (if (recE m e).1 = 3 then _ else if (recE m e).1 ≠ 4 ∧ p.length < 40 then (p ++ [(Q j, recE m e)], m0, vs) else (p, m0, vs)) = _
      rw [if_neg recE_kind.1, if_pos ⟨recE_kind.2, by omega⟩]
    rw [hs, rp_ad ws (j + 1) _ m0 vs (by rw [List.length_append, List.length_singleton]; omega), List.append_assoc]
    rfl
theorem meetR_eq {m : Nat} {Q : Nat → Nat} : ∀ (ws : List aE) (j : Nat) (vs : List aV), (adB m Q j ws).foldl meetR vs = (verB m Q j ws).foldl meetW vs
  | [], _, _ => rfl
  | e :: ws, j, vs => by
    show (adB m Q (j + 1) ws).foldl meetR (meetR vs (Q j, recE m e)) = (verB m Q (j + 1) ws).foldl meetW (meetW vs (e.1, m, Q j, e.2.map List.length, true))
    rw [meetR_eq ws (j + 1)]
    congr 1
    obtain ⟨k, v⟩ := e
    cases v with
    | none => rfl
    | some l => rfl
theorem rp_ch {x : aCh} {m0 : Nat} {vs : List aV} (h : x.2.2.1.length ≤ 40) : (chX x).foldl rpS ([], m0, vs) = ([], x.1, (chV x).foldl meetW vs) := by
  unfold chX chV
  rw [List.foldl_append, rp_ad _ _ [] m0 vs (by rw [List.length_nil]; omega), List.nil_append]
  show rpS (adB x.1 x.2.1 0 x.2.2.1, m0, vs) (x.2.2.2, doneR x.2.2.1.length x.1) = _
  unfold rpS
  refine (if_pos (show (doneR x.2.2.1.length x.1).1 = 3 from rfl)).trans ((if_pos (show x.2.2.1.length = (adB x.1 x.2.1 0 x.2.2.1).length from (adB_len _ _).symm)).trans ?_)
  show ([], x.1, (adB x.1 x.2.1 0 x.2.2.1).foldl meetR vs) = _
  rw [meetR_eq]
theorem rp_chs : ∀ (L : List aCh) (m0 : Nat) (vs : List aV), (∀ x ∈ L, x.2.2.1.length ≤ 40) → (L.flatMap chX).foldl rpS ([], m0, vs) = ([], L.foldl (fun _ x => x.1) m0, (L.flatMap chV).foldl meetW vs)
  | [], _, _, _ => rfl
  | x :: L, m0, vs, h => by
    rw [List.flatMap_cons, List.flatMap_cons, List.foldl_append, List.foldl_append, rp_ch (h x List.mem_cons_self), rp_chs L _ _ (fun y hy => h y (List.mem_cons_of_mem _ hy))]
    rfl
/-- a change without its mark counts for nothing; nor do records that were moved -/
theorem rp_part {m : Nat} {Q : Nat → Nat} {ws : List aE} {m0 : Nat} {vs : List aV} (h : ws.length ≤ 40) : ((adB m Q 0 ws).foldl rpS ([], m0, vs)).2 = (m0, vs) := by
  rw [rp_ad _ _ [] m0 vs (by rw [List.length_nil]; omega)]
theorem rp_moved : ∀ (xs : List (Nat × aRd)) (st : List (Nat × aRd) × Nat × List aV), (∀ x ∈ xs, x.2.1 = 4) → xs.foldl rpS st = st
  | [], _, _ => rfl
  | x :: xs, st, h => by
    rw [List.foldl_cons]
    have hx := h x List.mem_cons_self
    have : rpS st x = st := by
      unfold rpS
      rw [if_neg (by rw [hx]; decide), if_neg (by rw [hx]; exact fun q => q.1 rfl)]
    rw [this]
    exact rp_moved xs st (fun y hy => h y (List.mem_cons_of_mem _ hy))
theorem foldV_spec : ∀ (us2 us1 vs0 vs : List aV), SS vs → (∀ u ∈ us1 ++ us2, ∀ w ∈ vs0, w.2.1 < u.2.1) → (us1 ++ us2).Pairwise (fun a b => a.1 = b.1 → a.2.1 < b.2.1) → (∀ w, w ∈ vs ↔ (w ∈ vs0 ∧ ∀ u ∈ us1, ¬ u.1 = w.1) ∨ (w ∈ us1 ∧ ∀ u ∈ us1, u.1 = w.1 → u.2.1 ≤ w.2.1)) → ∀ w, w ∈ us2.foldl meetW vs ↔ (w ∈ vs0 ∧ ∀ u ∈ us1 ++ us2, ¬ u.1 = w.1) ∨ (w ∈ us1 ++ us2 ∧ ∀ u ∈ us1 ++ us2, u.1 = w.1 → u.2.1 ≤ w.2.1)
  | [], us1, vs0, vs, _, _, _, h, w => by rw [List.append_nil]; exact h w
  | v :: t, us1, vs0, vs, hs, hm, hp, h, w => by
    rw [show us1 ++ v :: t = (us1 ++ [v]) ++ t by rw [List.append_assoc]; rfl] at hm hp ⊢
    have hp1 : ∀ u ∈ us1, u.1 = v.1 → u.2.1 < v.2.1 := fun u hu => (List.pairwise_append.mp (List.pairwise_append.mp hp).1).2.2 u hu v (List.mem_singleton.mpr rfl)
    have hlt : ∀ u ∈ vs, u.1 = v.1 → u.2.1 < v.2.1 := fun u hu hk => by
      rcases (h u).mp hu with ⟨q, -⟩ | ⟨q, -⟩
      · exact hm v (List.mem_append.mpr (Or.inl (List.mem_append.mpr (Or.inr (List.mem_singleton.mpr rfl))))) u q
      · exact hp1 u q hk
    refine foldV_spec t (us1 ++ [v]) vs0 (meetV v vs) (meetV_ss hs) hm hp (fun w => ?_) w
    rw [mem_meet hs]
    constructor
    · rintro (⟨h1, h2⟩ | ⟨h1, ⟨h2, h3⟩ | ⟨h2, -⟩⟩)
      · rcases (h w).mp h2 with ⟨q1, q2⟩ | ⟨q1, q2⟩
        · exact Or.inl ⟨q1, fun u hu => (List.mem_append.mp hu).elim (q2 u) (fun q => by rw [List.mem_singleton.mp q]; exact fun e => h1 e.symm)⟩
        · exact Or.inr ⟨List.mem_append.mpr (Or.inl q1), fun u hu hk => (List.mem_append.mp hu).elim (fun q => q2 u q hk) (fun q => by rw [List.mem_singleton.mp q] at hk; exact absurd hk.symm h1)⟩
      · exact absurd (hlt w h2 h1) (by omega)
      · refine Or.inr ⟨by rw [h2]; exact List.mem_append.mpr (Or.inr (List.mem_singleton.mpr rfl)), fun u hu hk => ?_⟩
        rw [h2] at hk ⊢
        rcases List.mem_append.mp hu with q | q
        · exact Nat.le_of_lt (hp1 u q hk)
        · rw [List.mem_singleton.mp q]; exact Nat.le_refl _
    · rintro (⟨h1, h2⟩ | ⟨h1, h2⟩)
      · have hne : ¬ w.1 = v.1 := fun e => h2 v (List.mem_append.mpr (Or.inr (List.mem_singleton.mpr rfl))) e.symm
        exact Or.inl ⟨hne, (h w).mpr (Or.inl ⟨h1, fun u hu => h2 u (List.mem_append.mpr (Or.inl hu))⟩)⟩
      · rcases List.mem_append.mp h1 with q | q
        · have hne : ¬ w.1 = v.1 := fun e => by
            have q1 := h2 v (List.mem_append.mpr (Or.inr (List.mem_singleton.mpr rfl))) e.symm
            have q2 := hp1 w q e
            omega
          exact Or.inl ⟨hne, (h w).mpr (Or.inr ⟨q, fun u hu => h2 u (List.mem_append.mpr (Or.inl hu))⟩)⟩
        · have e := List.mem_singleton.mp q
          exact Or.inr ⟨by rw [e], Or.inr ⟨e, hlt⟩⟩
theorem foldW_ss {vs : List aV} (h : SS vs) : ∀ (us : List aV), SS (us.foldl meetW vs) := fun us => by
  induction us generalizing vs with
  | nil => exact h
  | cons v t ih => exact ih (meetV_ss h)
/-- what the chip tells: tables, then the changes of the log -/
def durV (es : List aT) (L : List aCh) : List aV := (L.flatMap chV).foldl meetW (es.foldl meetE [])
/-- log and memory agree -/
def WLog (vs : List aV) (es : List aT) (L : List aCh) : Prop := (∀ x ∈ L, x.2.2.1.length ≤ 40) ∧ (L.flatMap chV).Pairwise (fun a b => a.1 = b.1 → a.2.1 < b.2.1) ∧ (∀ u ∈ L.flatMap chV, ∀ e ∈ es, e.2.1 < u.2.1) ∧ (∀ u ∈ L.flatMap chV, (∀ y ∈ L.flatMap chV, y.1 = u.1 → y.2.1 ≤ u.2.1) → NwV vs u) ∧ ∀ v ∈ vs, v.2.2.2.2 = true → v ∈ L.flatMap chV
theorem durV_ss (es : List aT) (L : List aCh) : SS (durV es L) := foldW_ss (foldE_ss List.Pairwise.nil es) _
theorem verB_alone {m : Nat} {Q : Nat → Nat} {v : aV} : ∀ {ws : List aE} {j : Nat}, v ∈ verB m Q j ws → v.2.2.2.2 = true ∧ v.2.1 = m
  | e :: ws, j, h => by
    rcases List.mem_cons.mp h with q | q
    · rw [q]; exact ⟨rfl, rfl⟩
    · exact verB_alone q
theorem chV_alone {L : List aCh} {v : aV} (h : v ∈ L.flatMap chV) : v.2.2.2.2 = true := by
  obtain ⟨x, -, hx⟩ := List.mem_flatMap.mp h
  exact (verB_alone hx).1
theorem durV_mem {vs : List aV} {es : List aT} {L : List aCh} (hL : WLog vs es L) {w : aV} : w ∈ durV es L ↔ ((∃ e, WinE es e ∧ w = tV e) ∧ ∀ u ∈ L.flatMap chV, ¬ u.1 = w.1) ∨ (w ∈ L.flatMap chV ∧ ∀ u ∈ L.flatMap chV, u.1 = w.1 → u.2.1 ≤ w.2.1) := by
  obtain ⟨-, a2, a3, -, -⟩ := hL
  have := foldV_spec (L.flatMap chV) [] (es.foldl meetE []) (es.foldl meetE []) (foldE_ss List.Pairwise.nil es) (fun u hu w hw => by
    obtain ⟨e, e1, e2⟩ := foldE_mem.mp hw
    rw [e2]
    exact a3 u hu e e1.1.mem) a2 (fun w => ⟨fun h => Or.inl ⟨h, fun u hu => absurd hu List.not_mem_nil⟩, fun h => h.elim (fun q => q.1) (fun q => absurd q.1 List.not_mem_nil)⟩) w
  rw [List.nil_append] at this
  unfold durV
  rw [this, foldE_mem]
/-- of every key that has a value, the chip tells just the newest version -/
theorem dur_val {vs : List aV} {es : List aT} {L : List aCh} (hT : WTab vs es) (hL : WLog vs es L) (h1 : OneV vs) {k : List Nat} {m p n : Nat} : (∃ a, (k, m, p, some n, a) ∈ durV es L) ↔ ∃ a, NwV vs (k, m, p, some n, a) := by
  obtain ⟨a1, a2, a3⟩ := hT
  have hmx : ∀ u ∈ L.flatMap chV, ∃ y ∈ L.flatMap chV, y.1 = u.1 ∧ u.2.1 ≤ y.2.1 ∧ NwV vs y := fun u hu => by
    obtain ⟨y, y1, y2, y3⟩ := max_ex (fun y : aV => y.1 = u.1) (fun y => y.2.1) (L.flatMap chV) ⟨u, hu, rfl⟩
    exact ⟨y, y1, y2, y3 u hu rfl, hL.2.2.2.1 y y1 (fun z hz hk => y3 z hz (hk.trans y2))⟩
  constructor
  · rintro ⟨a, ha⟩
    rcases (durV_mem hL).mp ha with ⟨⟨e, e1, e2⟩, e3⟩ | ⟨b1, b2⟩
    · have ek : e.1 = k := (congrArg (fun z : aV => z.1) e2).symm
      have em : e.2.1 = m := (congrArg (fun z : aV => z.2.1) e2).symm
      have ep : e.2.2.1 = p := (congrArg (fun z : aV => z.2.2.1) e2).symm
      have en : e.2.2.2 = some n := (congrArg (fun z : aV => z.2.2.2.1) e2).symm
      by_cases hex : ∃ v ∈ vs, v.1 = e.1
      · obtain ⟨v, hv, hve⟩ := hex
        obtain ⟨w, hw, hwe, -⟩ := nw_ex hv
        have hwb : w.2.2.2.2 = false := by
          cases hb : w.2.2.2.2 with
          | false => rfl
          | true => exact absurd ((hwe.trans hve).trans ek) (e3 w (hL.2.2.2.2 w hw.1 hb))
        have hf := a1 w hw.1 hwb
        obtain ⟨u, hu, hue, hum⟩ := a2 e e1.1.mem w hw.1 (hwe.trans hve)
        have m1 : u.2.1 ≤ w.2.1 := hw.2 u hu (hue.trans (hwe.trans hve).symm)
        have m2 : w.2.1 ≤ e.2.1 := e1.2 (entV w) hf.mem (hwe.trans hve)
        have hee : e = entV w := e1.1.one hf (hwe.trans hve).symm (show e.2.1 = w.2.1 by omega)
        have hwn : w.2.2.2.1 = some n := by rw [← en, hee]; rfl
        have hwp : w.2.2.1 = p := by
          rw [← ep, hee]
          show w.2.2.1 = if w.2.2.2.1 = none then 0 else w.2.2.1
          rw [if_neg (by rw [hwn]; exact Option.some_ne_none _)]
        have hww : w = (k, m, p, some n, w.2.2.2.2) := by
          rw [← hwn, ← hwp, ← ek, ← em, ← hve, ← hwe, show e.2.1 = w.2.1 by omega]
        exact ⟨w.2.2.2.2, by rw [← hww]; exact hw⟩
      · have := a3 e e1 (fun v hv q => hex ⟨v, hv, q⟩)
        rw [en] at this
        exact (Option.some_ne_none _ this).elim
    · exact ⟨a, hL.2.2.2.1 _ b1 b2⟩
  · rintro ⟨a, ha⟩
    cases a with
    | true =>
      have hin := hL.2.2.2.2 _ ha.1 rfl
      refine ⟨true, (durV_mem hL).mpr (Or.inr ⟨hin, fun u hu hk => ?_⟩)⟩
      obtain ⟨y, y1, y2, y3, y4⟩ := hmx u hu
      have := ha.2 y y4.1 (y2.trans hk)
      omega
    | false =>
      have hf := a1 _ ha.1 rfl
      have hent : entV (k, m, p, some n, false) = (k, m, p, some n) := rfl
      rw [hent] at hf
      refine ⟨false, (durV_mem hL).mpr (Or.inl ⟨⟨(k, m, p, some n), ⟨hf, fun x hx hk => ?_⟩, rfl⟩, fun u hu hk => ?_⟩)⟩
      · obtain ⟨u, hu, hue, hum⟩ := a2 x hx _ ha.1 hk.symm
        have := ha.2 u hu (hue.trans hk)
        exact Nat.le_trans hum this
      · obtain ⟨y, y1, y2, y3, y4⟩ := hmx u hu
        have hyk : y.1 = k := y2.trans hk
        have q1 : y.2.1 ≤ m := ha.2 y y4.1 hyk
        have q2 : m ≤ y.2.1 := y4.2 _ ha.1 hyk.symm
        have := h1 y y4.1 _ ha.1 hyk (show y.2.1 = m by omega)
        have hb := chV_alone y1
        rw [this] at hb
        exact Bool.noConfusion hb
/-- what a mount makes of the chip agrees with the tables again -/
theorem durV_tab {vs : List aV} {es : List aT} {L : List aCh} (hL : WLog vs es L) (h0 : ∀ e ∈ es, e.2.2.2 = none → e.2.2.1 = 0) : WTab (durV es L) es := by
  refine ⟨fun v hv hb => ?_, fun e he v hv hk => ?_, fun e he hno => ?_⟩
  · rcases (durV_mem hL).mp hv with ⟨⟨e, e1, e2⟩, -⟩ | ⟨b1, -⟩
    · have : entV v = e := by
        rw [e2]
        obtain ⟨k, m, p, l⟩ := e
        show (k, m, (if l = none then 0 else p), l) = (k, m, p, l)
        by_cases hl : l = none
        · rw [if_pos hl, show p = 0 from h0 _ e1.1.mem hl]
        · rw [if_neg hl]
      rw [this]
      exact e1.1
    · rw [chV_alone b1] at hb
      exact Bool.noConfusion hb
  · refine ⟨v, hv, hk, ?_⟩
    rcases (durV_mem hL).mp hv with ⟨⟨f, f1, f2⟩, -⟩ | ⟨b1, -⟩
    · rw [f2] at hk ⊢
      exact f1.2 e he hk.symm
    · exact Nat.le_of_lt (hL.2.2.1 v b1 e he)
  · exfalso
    by_cases hex : ∃ u ∈ L.flatMap chV, u.1 = e.1
    · obtain ⟨u, hu, hue⟩ := hex
      obtain ⟨y, y1, y2, y3⟩ := max_ex (fun y : aV => y.1 = u.1) (fun y => y.2.1) (L.flatMap chV) ⟨u, hu, rfl⟩
      exact hno y ((durV_mem hL).mpr (Or.inr ⟨y1, fun z hz hk => y3 z hz (hk.trans y2)⟩)) (y2.trans hue)
    · exact hno (tV e) ((durV_mem hL).mpr (Or.inl ⟨⟨e, he, rfl⟩, fun u hu hk => hex ⟨u, hu, hk⟩⟩)) rfl
