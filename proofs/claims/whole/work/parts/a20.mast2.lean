/-! ===== the state on the chip and what is known of it in memory; pure; by hand ===== -/
set_option maxRecDepth 20000 in
theorem lastF_cong {c c' : Nat → Int8} {m : Nat} (h : ∀ q, m * 2048 ≤ q → q < m * 2048 + 2048 → c' q = c q) : ∀ (k o : Nat) (l : Option Nat), o ≤ 2048 → lastF c' m k o l = lastF c m k o l
  | 0, _, _, _ => rfl
  | k + 1, o, l, ho => by
    by_cases h13 : o + 13 ≤ 2048
    · rw [lastF, lastF]
      have hn : stN c' (m * 2048 + o) = stN c (m * 2048 + o) := stN_congr (fun q q1 q2 => h q (by omega) (by omega))
      have hw : (wholeS c' m o = true) ↔ (wholeS c m o = true) := by
        rw [wholeS_iff, wholeS_iff, hn, h (m * 2048 + o) (by omega) (by omega)]
        constructor
        · rintro ⟨a1, a2, a3, a4, a5⟩; exact ⟨a1, a2, a3, a4, by rw [← h _ (by omega) (by omega)]; exact a5⟩
        · rintro ⟨a1, a2, a3, a4, a5⟩; exact ⟨a1, a2, a3, a4, by rw [h _ (by omega) (by omega)]; exact a5⟩
      rw [h (m * 2048) (by omega) (by omega), hn]
      by_cases e : ub (c (m * 2048)) = 77 ∧ wholeS c m o = true
      · rw [if_pos e, if_pos ⟨e.1, hw.mpr e.2⟩]
        obtain ⟨a1, a2, a3, a4, a5⟩ := wholeS_iff.mp e.2
        exact lastF_cong h k _ _ (by omega)
      · rw [if_neg e, if_neg (fun e2 => e ⟨e2.1, hw.mp e2.2⟩)]
    · rw [lastF_stop (fun e => h13 (wholeS_iff.mp e.2).1), lastF_stop (fun e => h13 (wholeS_iff.mp e.2).1)]
set_option maxRecDepth 20000 in
theorem sqN_congr {c c' : Nat → Int8} {m : Nat} (h : ∀ q, m * 2048 ≤ q → q < m * 2048 + 2048 → c' q = c q) : sqN c' m = sqN c m := by
  unfold sqN
  rw [sl_congr 4 (m * 2048 + 1) (m * 2048 + 1) (fun q hq => h _ (by omega) (by omega))]
/-- the state on the chip: its present, fresh logs, tables; in which block it is, what is known of its top, its number -/
def MastB (c : Nat → Int8) (P fr ff : Nat) (lgs : List Nat) (rs : List aR) (ms mt sq : Nat) : Prop := ms < 2 ∧ mt ≤ 2048 ∧ ((lastF c 0 2048 5 none = none ∧ lastF c 1 2048 5 none = none ∧ ms = 0 ∧ mt = 2048 ∧ sq = 0 ∧ P = 0 ∧ fr = 0 ∧ ff = 0 ∧ lgs = [] ∧ rs = []) ∨ ∃ a, lastF c ms 2048 5 none = some a ∧ sqN c ms = sq ∧ sl c a (encS P fr ff lgs rs).length = encS P fr ff lgs rs ∧ ms * 2048 ≤ a ∧ a + (encS P fr ff lgs rs).length ≤ ms * 2048 + 2048 ∧ (lastF c (1 - ms) 2048 5 none = none ∨ sqN c (1 - ms) < sq) ∧ (mt < 2048 → ub (c (ms * 2048)) = 77 ∧ ∃ ns, Chain c ms 5 ns ∧ 5 + ns.sum = mt ∧ lastA ms 5 ns none = some a ∧ Ers c (ms * 2048 + mt) (ms * 2048 + 2048)))
set_option maxRecDepth 20000 in
/-- nothing is known of the top any more -/
theorem MastB.forget {c : Nat → Int8} {P fr ff : Nat} {lgs : List Nat} {rs : List aR} {ms mt sq : Nat} (h : MastB c P fr ff lgs rs ms mt sq) : MastB c P fr ff lgs rs ms 2048 sq := by
  obtain ⟨h1, h2, h3⟩ := h
  refine ⟨h1, Nat.le_refl _, ?_⟩
  rcases h3 with ⟨a1, a2, a3, a4, a5⟩ | ⟨a, b1, b2, b3, b4, b5, b6, b7⟩
  · exact Or.inl ⟨a1, a2, a3, rfl, a5⟩
  · exact Or.inr ⟨a, b1, b2, b3, b4, b5, b6, fun e => absurd e (Nat.lt_irrefl _)⟩
set_option maxRecDepth 20000 in
theorem MastB.far {c c' : Nat → Int8} {P fr ff : Nat} {lgs : List Nat} {rs : List aR} {ms mt sq : Nat} (h : MastB c P fr ff lgs rs ms mt sq) (hc : ∀ q, q < 4096 → c' q = c q) : MastB c' P fr ff lgs rs ms mt sq := by
  obtain ⟨h1, h2, h3⟩ := h
  have hm : ∀ m, m < 2 → ∀ q, m * 2048 ≤ q → q < m * 2048 + 2048 → c' q = c q := fun m hm q q1 q2 => hc q (by omega)
  have hl : ∀ m, m < 2 → lastF c' m 2048 5 none = lastF c m 2048 5 none := fun m h => lastF_cong (hm m h) _ _ _ (by omega)
  have hs : ∀ m, m < 2 → sqN c' m = sqN c m := fun m h => sqN_congr (hm m h)
  refine ⟨h1, h2, ?_⟩
  rcases h3 with ⟨a1, a2, a3⟩ | ⟨a, b1, b2, b3, b4, b5, b6, b7⟩
  · exact Or.inl ⟨by rw [hl 0 (by omega)]; exact a1, by rw [hl 1 (by omega)]; exact a2, a3⟩
  · refine Or.inr ⟨a, by rw [hl ms h1]; exact b1, by rw [hs ms h1]; exact b2, ?_, b4, b5, by rw [hl _ (by omega), hs _ (by omega)]; exact b6, fun e => ?_⟩
    · rw [sl_congr _ a a (fun q hq => hc (a + q) (by omega))]; exact b3
    · obtain ⟨c1, ns, c2, c3, c4, c5⟩ := b7 e
      refine ⟨by rw [hc _ (by omega)]; exact c1, ns, c2.congr (e := 2048) (fun q q1 q2 => hc q (by omega)) (by omega), c3, c4, fun q q1 q2 => ?_⟩
      rw [hc q (by omega)]
      exact c5 q q1 q2
set_option maxRecDepth 20000 in
/-- which state mount finds -/
theorem MastB.pick {c : Nat → Int8} {P fr ff : Nat} {lgs : List Nat} {rs : List aR} {ms mt sq : Nat} (h : MastB c P fr ff lgs rs ms mt sq) : (pickF c = none ∧ ms = 0 ∧ sq = 0 ∧ P = 0 ∧ fr = 0 ∧ ff = 0 ∧ lgs = [] ∧ rs = []) ∨ ∃ a, pickF c = some (ms, a, sq) ∧ sl c a (encS P fr ff lgs rs).length = encS P fr ff lgs rs ∧ a + (encS P fr ff lgs rs).length ≤ 4096 := by
  obtain ⟨h1, h2, h3⟩ := h
  rcases h3 with ⟨a1, a2, a3, a4, a5, a6⟩ | ⟨a, b1, b2, b3, b4, b5, b6, b7⟩
  · refine Or.inl ⟨?_, a3, a5, a6⟩
    unfold pickF
    rw [a1, a2]
  · refine Or.inr ⟨a, ?_, b3, by omega⟩
    unfold pickF
    rcases (show ms = 0 ∨ ms = 1 by omega) with e | e
    · subst e
      rw [b1]
      rcases b6 with b6 | b6
      · have b6 : lastF c 1 2048 5 none = none := b6
        rw [b6, b2]
      · have b6 : sqN c 1 < sq := b6
        cases hl : lastF c 1 2048 5 none with
        | none => rw [b2]
        | some b => show (if _ then _ else _) = _; rw [if_neg (by omega), b2]
    · subst e
      rw [b1]
      rcases b6 with b6 | b6
      · have b6 : lastF c 0 2048 5 none = none := b6
        rw [b6, b2]
      · have b6 : sqN c 0 < sq := b6
        cases hl : lastF c 0 2048 5 none with
        | none => rw [b2]
        | some b => show (if _ then _ else _) = _; rw [if_pos (by omega), b2]
set_option maxRecDepth 20000 in
theorem MastB.known {c : Nat → Int8} {P fr ff : Nat} {lgs : List Nat} {rs : List aR} {ms mt sq : Nat} (h : MastB c P fr ff lgs rs ms mt sq) (hmt : mt < 2048) : ∃ a, lastF c ms 2048 5 none = some a ∧ sqN c ms = sq ∧ sl c a (encS P fr ff lgs rs).length = encS P fr ff lgs rs ∧ ms * 2048 ≤ a ∧ a + (encS P fr ff lgs rs).length ≤ ms * 2048 + 2048 ∧ (lastF c (1 - ms) 2048 5 none = none ∨ sqN c (1 - ms) < sq) ∧ ub (c (ms * 2048)) = 77 ∧ ∃ ns, Chain c ms 5 ns ∧ 5 + ns.sum = mt ∧ lastA ms 5 ns none = some a ∧ Ers c (ms * 2048 + mt) (ms * 2048 + 2048) := by
  obtain ⟨h1, h2, h3⟩ := h
  rcases h3 with ⟨a1, a2, a3, a4, a5⟩ | ⟨a, b1, b2, b3, b4, b5, b6, b7⟩
  · omega
  · exact ⟨a, b1, b2, b3, b4, b5, b6, b7 hmt⟩
set_option maxRecDepth 20000 in
/-- a state is written behind the last one -/
theorem MastB.app {c c' : Nat → Int8} {P fr ff P' fr' ff' : Nat} {lgs lgs' : List Nat} {rs rs' : List aR} {ms mt sq : Nat} (h : MastB c P fr ff lgs rs ms mt sq) (hfit : (encS P' fr' ff' lgs' rs').length ≤ 2048 - mt) (hW : WrP c c' (ms * 2048 + mt) (encS P' fr' ff' lgs' rs')) : MastB c' P' fr' ff' lgs' rs' ms (mt + (encS P' fr' ff' lgs' rs').length) sq := by
  have hel := encS_len (P := P') (fr := fr') (ff := ff') (lgs := lgs') (rs := rs')
  obtain ⟨h1, h2, -⟩ := id h
  obtain ⟨a, b1, b2, b3, b4, b5, b6, c1, ns, c2, c3, c4, c5⟩ := h.known (by omega)
  obtain ⟨w1, w2⟩ := hW
  have hlow : ∀ q, ms * 2048 ≤ q → q < ms * 2048 + mt → c' q = c q := fun q q1 q2 => w2 q (by omega)
  have hoth : ∀ q, (1 - ms) * 2048 ≤ q → q < (1 - ms) * 2048 + 2048 → c' q = c q := fun q q1 q2 => w2 q (by omega)
  obtain ⟨e1, e2⟩ := enc_whole w1 (by omega)
  have hch : Chain c' ms 5 (ns ++ [(encS P' fr' ff' lgs' rs').length]) := (c2.congr hlow (by omega)).snoc (by rw [c3]; exact e1) (by rw [c3]; exact e2)
  have hsum : 5 + (ns ++ [(encS P' fr' ff' lgs' rs').length]).sum = mt + (encS P' fr' ff' lgs' rs').length := by
    rw [List.sum_append, ← Nat.add_assoc, c3, List.sum_cons, List.sum_nil, Nat.add_zero]
  have h77 : ub (c' (ms * 2048)) = 77 := by rw [hlow _ (Nat.le_refl _) (by omega)]; exact c1
  have hErs : Ers c' (ms * 2048 + (mt + (encS P' fr' ff' lgs' rs').length)) (ms * 2048 + 2048) := fun q q1 q2 => by
    rw [w2 q (by omega)]; exact c5 q (by omega) q2
  have hstop : ¬ wholeS c' ms (5 + (ns ++ [(encS P' fr' ff' lgs' rs').length]).sum) = true := fun e => by
    rw [hsum] at e
    obtain ⟨a1, a2, -⟩ := wholeS_iff.mp e
    rw [hErs _ (by omega) (by omega)] at a2
    omega
  refine ⟨h1, by omega, Or.inr ⟨ms * 2048 + mt, ?_, ?_, w1, by omega, by omega, ?_, fun _ => ⟨h77, _, hch, hsum, ?_, hErs⟩⟩⟩
  · rw [lastF_eq h77 hch hstop, lastA_snoc, c3]
  · rw [← b2]
    unfold sqN
    rw [sl_congr 4 (ms * 2048 + 1) (ms * 2048 + 1) (fun q hq => hlow _ (by omega) (by omega))]
  · rw [lastF_cong hoth _ _ _ (by omega), sqN_congr hoth]; exact b6
  · rw [lastA_snoc, c3]
set_option maxRecDepth 20000 in
theorem lastA_before {c : Nat → Int8} {m a : Nat} : ∀ {o : Nat} {ns : List Nat} {l : Option Nat}, Chain c m o ns → lastA m o ns l = some a → l = some a ∨ a + stN c a ≤ m * 2048 + (o + ns.sum)
  | o, [], l, _, h => Or.inl h
  | o, n :: ns, l, ⟨h1, h2, h3⟩, h => by
    rw [List.sum_cons]
    rcases lastA_before h3 h with e | e
    · have e : m * 2048 + o = a := Option.some.inj e
      rw [← e, h2]
      exact Or.inr (by omega)
    · exact Or.inr (by omega)
set_option maxRecDepth 20000 in
/-- a state that was cut: the last one stays -/
theorem MastB.appTorn {c c' : Nat → Int8} {P fr ff P' fr' ff' k : Nat} {lgs lgs' : List Nat} {rs rs' : List aR} {ms mt sq : Nat} (h : MastB c P fr ff lgs rs ms mt sq) (hfit : (encS P' fr' ff' lgs' rs').length ≤ 2048 - mt) (hk : k < (encS P' fr' ff' lgs' rs').length) (hW : WrP c c' (ms * 2048 + mt) ((encS P' fr' ff' lgs' rs').take k)) : MastB c' P fr ff lgs rs ms 2048 sq := by
  have hel := encS_len (P := P') (fr := fr') (ff := ff') (lgs := lgs') (rs := rs')
  obtain ⟨h1, h2, -⟩ := id h
  obtain ⟨a, b1, b2, b3, b4, b5, b6, c1, ns, c2, c3, c4, c5⟩ := h.known (by omega)
  have hno := torn_state c5 hW hk (by omega)
  obtain ⟨w1, w2⟩ := hW
  have hl : ((encS P' fr' ff' lgs' rs').take k).length = k := by rw [List.length_take]; omega
  rw [hl] at w2
  have hlow : ∀ q, ms * 2048 ≤ q → q < ms * 2048 + mt → c' q = c q := fun q q1 q2 => w2 q (by omega)
  have hoth : ∀ q, (1 - ms) * 2048 ≤ q → q < (1 - ms) * 2048 + 2048 → c' q = c q := fun q q1 q2 => w2 q (by omega)
  have h77 : ub (c' (ms * 2048)) = 77 := by rw [hlow _ (Nat.le_refl _) (by omega)]; exact c1
  have hamt : a + (encS P fr ff lgs rs).length ≤ ms * 2048 + mt := by
    -- the last state lies before the top
    have h9 := (lastA_before c2 c4).resolve_left (fun e => by cases e)
    have h10 := (enc_whole (c := c) (m := ms) (o := a - ms * 2048) (by rw [show ms * 2048 + (a - ms * 2048) = a by omega]; exact b3) (by omega)).2
    rw [show ms * 2048 + (a - ms * 2048) = a by omega] at h10
    rw [h10] at h9
    omega
  refine ⟨h1, Nat.le_refl _, Or.inr ⟨a, ?_, ?_, ?_, b4, b5, ?_, fun e => absurd e (Nat.lt_irrefl _)⟩⟩
  · rw [lastF_eq h77 (c2.congr hlow (by omega)) (by rw [c3]; exact hno)]
    exact c4
  · rw [← b2]
    unfold sqN
    rw [sl_congr 4 (ms * 2048 + 1) (ms * 2048 + 1) (fun q hq => hlow _ (by omega) (by omega))]
  · rw [sl_congr _ a a (fun q hq => hlow _ (by omega) (by omega))]; exact b3
  · rw [lastF_cong hoth _ _ _ (by omega), sqN_congr hoth]; exact b6
set_option maxRecDepth 20000 in
/-- a state is written into the other block -/
theorem MastB.flip {c c1 c' : Nat → Int8} {P fr ff P' fr' ff' : Nat} {lgs lgs' : List Nat} {rs rs' : List aR} {ms mt sq : Nat} (h : MastB c P fr ff lgs rs ms mt sq) (hlen : (encS P' fr' ff' lgs' rs').length ≤ 2043) (hsq : sq + 1 < 2 ^ 31) (hE : EraP c c1 (1 - ms) 2048) (hW : WrP c1 c' ((1 - ms) * 2048) (hdS (sq + 1) (encS P' fr' ff' lgs' rs'))) : MastB c' P' fr' ff' lgs' rs' (1 - ms) (5 + (encS P' fr' ff' lgs' rs').length) (sq + 1) := by
  have hel := encS_len (P := P') (fr := fr') (ff := ff') (lgs := lgs') (rs := rs')
  obtain ⟨h1, h2, h3⟩ := h
  obtain ⟨w1, w2⟩ := hW
  rw [hdS_len] at w1 w2
  unfold hdS at w1
  rw [show 5 + (encS P' fr' ff' lgs' rs').length = 1 + (4 + (encS P' fr' ff' lgs' rs').length) by omega] at w1
  obtain ⟨s1, w1⟩ := sl_split w1 (beB_len _ _)
  obtain ⟨s2, s3⟩ := sl_split w1 (beB_len _ _)
  have h77 : ub (c' ((1 - ms) * 2048)) = 77 := num1b s1 (by decide)
  have hold : ∀ q, ms * 2048 ≤ q → q < ms * 2048 + 2048 → c' q = c q := fun q q1 q2 => by
    rw [w2 q (by omega), hE]
    exact if_neg (by omega)
  have hErs : Ers c' ((1 - ms) * 2048 + (5 + (encS P' fr' ff' lgs' rs').length)) ((1 - ms) * 2048 + 2048) := fun q q1 q2 => by
    rw [w2 q (by omega), hE]
    show ub (if _ then _ else _) = 255
    rw [if_pos (by omega)]
    decide
  rw [show (1 - ms) * 2048 + 1 + 4 = (1 - ms) * 2048 + 5 by omega] at s3
  obtain ⟨e1, e2⟩ := enc_whole s3 (by omega)
  have hch : Chain c' (1 - ms) 5 [(encS P' fr' ff' lgs' rs').length] := ⟨e1, e2, trivial⟩
  have hsum : 5 + [(encS P' fr' ff' lgs' rs').length].sum = 5 + (encS P' fr' ff' lgs' rs').length := by rw [List.sum_cons, List.sum_nil, Nat.add_zero]
  have hstop : ¬ wholeS c' (1 - ms) (5 + [(encS P' fr' ff' lgs' rs').length].sum) = true := fun e => by
    rw [hsum] at e
    obtain ⟨a1, a2, -⟩ := wholeS_iff.mp e
    rw [hErs _ (by omega) (by omega)] at a2
    omega
  have hsqn : sqN c' (1 - ms) = sq + 1 := by
    unfold sqN
    rw [s2, beN_beB0 (by omega)]
  refine ⟨by omega, by omega, Or.inr ⟨(1 - ms) * 2048 + 5, ?_, hsqn, s3, by omega, by omega, ?_, fun _ => ⟨h77, _, hch, hsum, rfl, hErs⟩⟩⟩
  · rw [lastF_eq h77 hch hstop]
    rfl
  · rw [show 1 - (1 - ms) = ms by omega, lastF_cong hold _ _ _ (by omega), sqN_congr hold]
    rcases h3 with ⟨a1, a2, a3, a4⟩ | ⟨a, b1, b2, b3⟩
    · subst a3
      exact Or.inl a1
    · exact Or.inr (by omega)
set_option maxRecDepth 20000 in
/-- the other block was erased in part, or written in part: the state stays -/
theorem MastB.flipTorn {c c' : Nat → Int8} {P fr ff : Nat} {lgs : List Nat} {rs : List aR} {ms mt sq : Nat} (h : MastB c P fr ff lgs rs ms mt sq) (hold : ∀ q, ms * 2048 ≤ q → q < ms * 2048 + 2048 → c' q = c q) (hno : lastF c' (1 - ms) 2048 5 none = none ∨ ∀ q, (1 - ms) * 2048 ≤ q → q < (1 - ms) * 2048 + 2048 → c' q = c q) : MastB c' P fr ff lgs rs ms 2048 sq := by
  obtain ⟨h1, h2, h3⟩ := h
  refine ⟨h1, Nat.le_refl _, ?_⟩
  rcases h3 with ⟨a1, a2, a3, a4, a5⟩ | ⟨a, b1, b2, b3, b4, b5, b6, b7⟩
  · subst a3
    refine Or.inl ⟨?_, ?_, rfl, rfl, a5⟩
    · rw [lastF_cong hold _ _ _ (by omega)]; exact a1
    · rcases hno with e | e
      · exact e
      · have e : ∀ q, 1 * 2048 ≤ q → q < 1 * 2048 + 2048 → c' q = c q := e
        rw [lastF_cong e _ _ _ (by omega)]; exact a2
  · refine Or.inr ⟨a, ?_, ?_, ?_, b4, b5, ?_, fun e => absurd e (Nat.lt_irrefl _)⟩
    · rw [lastF_cong hold _ _ _ (by omega)]; exact b1
    · rw [sqN_congr hold]; exact b2
    · rw [sl_congr _ a a (fun q hq => hold _ (by omega) (by omega))]; exact b3
    · rcases hno with e | e
      · exact Or.inl e
      · rw [lastF_cong e _ _ _ (by omega), sqN_congr e]; exact b6
set_option maxRecDepth 20000 in
theorem MastB.eraTorn {c c' : Nat → Int8} {P fr ff k : Nat} {lgs : List Nat} {rs : List aR} {ms mt sq : Nat} (h : MastB c P fr ff lgs rs ms mt sq) (hk : k ≤ 2048) (hE : EraP c c' (1 - ms) k) : MastB c' P fr ff lgs rs ms 2048 sq := by
  have hms := h.1
  refine h.flipTorn (fun q q1 q2 => by rw [hE]; exact if_neg (by omega)) ?_
  by_cases e : k = 0
  · exact Or.inr (fun q q1 q2 => by rw [hE]; exact if_neg (by omega))
  · refine Or.inl (lastF_stop (fun e2 => ?_))
    have h77 := e2.1
    rw [hE] at h77
    have h77 : ub (if (1 - ms) * 2048 ≤ (1 - ms) * 2048 ∧ (1 - ms) * 2048 < (1 - ms) * 2048 + k then (-1 : Int8) else c ((1 - ms) * 2048)) = 77 := h77
    rw [if_pos (by omega)] at h77
    revert h77
    decide
set_option maxRecDepth 20000 in
theorem MastB.hdTorn {c c1 c' : Nat → Int8} {P fr ff P' fr' ff' k : Nat} {lgs lgs' : List Nat} {rs rs' : List aR} {ms mt sq sq' : Nat} (h : MastB c P fr ff lgs rs ms mt sq) (hlen : (encS P' fr' ff' lgs' rs').length ≤ 2043) (hE : EraP c c1 (1 - ms) 2048) (hk : k < (hdS sq' (encS P' fr' ff' lgs' rs')).length) (hW : WrP c1 c' ((1 - ms) * 2048) ((hdS sq' (encS P' fr' ff' lgs' rs')).take k)) : MastB c' P fr ff lgs rs ms 2048 sq := by
  have hms := h.1
  obtain ⟨w1, w2⟩ := hW
  have hl : ((hdS sq' (encS P' fr' ff' lgs' rs')).take k).length = k := by rw [List.length_take]; omega
  rw [hl] at w1 w2
  rw [hdS_len] at hk
  refine h.flipTorn (fun q q1 q2 => by rw [w2 q (by omega), hE]; exact if_neg (by omega)) (Or.inl (lastF_stop (fun e => ?_)))
  have hErs : ∀ q, (1 - ms) * 2048 + k ≤ q → q < (1 - ms) * 2048 + 2048 → ub (c' q) = 255 := fun q q1 q2 => by
    rw [w2 q (by omega), hE]
    show ub (if _ then _ else _) = 255
    rw [if_pos (by omega)]
    decide
  by_cases hk5 : k ≤ 5
  · have := (wholeS_iff.mp e.2).2.1
    rw [hErs _ (by omega) (by omega)] at this
    omega
  · -- the state itself was cut
    have hE1 : Ers c1 ((1 - ms) * 2048 + 5) ((1 - ms) * 2048 + 2048) := fun q q1 q2 => by
      rw [hE]
      show ub (if _ then _ else _) = 255
      rw [if_pos (by omega)]
      decide
    -- c1 with the head written
    refine torn_state (c := fun q => if q < (1 - ms) * 2048 + 5 then c' q else c1 q) (c' := c') (m := 1 - ms) (o := 5) (k := k - 5) (P := P') (fr := fr') (ff := ff') (lgs := lgs') (rs := rs') (fun q q1 q2 => ?_) ⟨?_, fun q hq => ?_⟩ (by omega) (by omega) e.2
    · show ub (if _ then _ else _) = 255
      rw [if_neg (by omega)]
      exact hE1 q q1 q2
    · have hl2 : ((encS P' fr' ff' lgs' rs').take (k - 5)).length = k - 5 := by rw [List.length_take]; omega
      rw [hl2]
      have e1 : (hdS sq' (encS P' fr' ff' lgs' rs')).take k = (beB 1 77 ++ beB 4 sq') ++ (encS P' fr' ff' lgs' rs').take (k - 5) := by
        unfold hdS
        rw [← List.append_assoc, List.take_append, List.take_of_length_le (by rw [List.length_append, beB_len, beB_len]; omega), List.length_append, beB_len, beB_len]
      rw [e1, show k = 5 + (k - 5) by omega] at w1
      rw [show 5 + (k - 5) - 5 = k - 5 by omega] at w1
      exact (sl_split w1 (by rw [List.length_append, beB_len, beB_len])).2
    · have hl2 : ((encS P' fr' ff' lgs' rs').take (k - 5)).length = k - 5 := by rw [List.length_take]; omega
      rw [hl2] at hq
      by_cases h5 : q < (1 - ms) * 2048 + 5
      · show c' q = (if q < (1 - ms) * 2048 + 5 then c' q else c1 q)
        rw [if_pos h5]
      · show c' q = (if q < (1 - ms) * 2048 + 5 then c' q else c1 q)
        rw [if_neg h5, w2 q (by omega)]
/-- and its present is a number of the machine -/
def Mast (c : Nat → Int8) (P fr ff : Nat) (lgs : List Nat) (rs : List aR) (ms mt sq : Nat) : Prop := MastB c P fr ff lgs rs ms mt sq ∧ P < 2 ^ 31
theorem Mast.forget {c : Nat → Int8} {P fr ff : Nat} {lgs : List Nat} {rs : List aR} {ms mt sq : Nat} (h : Mast c P fr ff lgs rs ms mt sq) : Mast c P fr ff lgs rs ms 2048 sq := ⟨h.1.forget, h.2⟩
theorem Mast.far {c' : Nat → Int8} {c : Nat → Int8} {P fr ff : Nat} {lgs : List Nat} {rs : List aR} {ms mt sq : Nat} (h : Mast c P fr ff lgs rs ms mt sq) (hc : ∀ q, q < 4096 → c' q = c q) : Mast c' P fr ff lgs rs ms mt sq := ⟨h.1.far hc, h.2⟩
theorem Mast.pick {c : Nat → Int8} {P fr ff : Nat} {lgs : List Nat} {rs : List aR} {ms mt sq : Nat} (h : Mast c P fr ff lgs rs ms mt sq) : (pickF c = none ∧ ms = 0 ∧ sq = 0 ∧ P = 0 ∧ fr = 0 ∧ ff = 0 ∧ lgs = [] ∧ rs = []) ∨ ∃ a, pickF c = some (ms, a, sq) ∧ sl c a (encS P fr ff lgs rs).length = encS P fr ff lgs rs ∧ a + (encS P fr ff lgs rs).length ≤ 4096 := h.1.pick
theorem Mast.app {c c' : Nat → Int8} {P fr ff P' fr' ff' : Nat} {lgs lgs' : List Nat} {rs rs' : List aR} {ms mt sq : Nat} (h : Mast c P fr ff lgs rs ms mt sq) (hP : P' < 2 ^ 31) (hfit : (encS P' fr' ff' lgs' rs').length ≤ 2048 - mt) (hW : WrP c c' (ms * 2048 + mt) (encS P' fr' ff' lgs' rs')) : Mast c' P' fr' ff' lgs' rs' ms (mt + (encS P' fr' ff' lgs' rs').length) sq := ⟨h.1.app hfit hW, hP⟩
theorem Mast.appTorn {c c' : Nat → Int8} {P fr ff P' fr' ff' k : Nat} {lgs lgs' : List Nat} {rs rs' : List aR} {ms mt sq : Nat} (h : Mast c P fr ff lgs rs ms mt sq) (hfit : (encS P' fr' ff' lgs' rs').length ≤ 2048 - mt) (hk : k < (encS P' fr' ff' lgs' rs').length) (hW : WrP c c' (ms * 2048 + mt) ((encS P' fr' ff' lgs' rs').take k)) : Mast c' P fr ff lgs rs ms 2048 sq := ⟨h.1.appTorn hfit hk hW, h.2⟩
theorem Mast.flip {c1 : Nat → Int8} {c c' : Nat → Int8} {P fr ff P' fr' ff' : Nat} {lgs lgs' : List Nat} {rs rs' : List aR} {ms mt sq : Nat} (h : Mast c P fr ff lgs rs ms mt sq) (hP : P' < 2 ^ 31) (hlen : (encS P' fr' ff' lgs' rs').length ≤ 2043) (hsq : sq + 1 < 2 ^ 31) (hE : EraP c c1 (1 - ms) 2048) (hW : WrP c1 c' ((1 - ms) * 2048) (hdS (sq + 1) (encS P' fr' ff' lgs' rs'))) : Mast c' P' fr' ff' lgs' rs' (1 - ms) (5 + (encS P' fr' ff' lgs' rs').length) (sq + 1) := ⟨h.1.flip hlen hsq hE hW, hP⟩
theorem Mast.eraTorn {c' : Nat → Int8} {k : Nat} {c : Nat → Int8} {P fr ff : Nat} {lgs : List Nat} {rs : List aR} {ms mt sq : Nat} (h : Mast c P fr ff lgs rs ms mt sq) (hk : k ≤ 2048) (hE : EraP c c' (1 - ms) k) : Mast c' P fr ff lgs rs ms 2048 sq := ⟨h.1.eraTorn hk hE, h.2⟩
theorem Mast.hdTorn {c1 : Nat → Int8} {sq' : Nat} {c c' : Nat → Int8} {P fr ff P' fr' ff' k : Nat} {lgs lgs' : List Nat} {rs rs' : List aR} {ms mt sq : Nat} (h : Mast c P fr ff lgs rs ms mt sq) (hlen : (encS P' fr' ff' lgs' rs').length ≤ 2043) (hE : EraP c c1 (1 - ms) 2048) (hk : k < (hdS sq' (encS P' fr' ff' lgs' rs')).length) (hW : WrP c1 c' ((1 - ms) * 2048) ((hdS sq' (encS P' fr' ff' lgs' rs')).take k)) : Mast c' P fr ff lgs rs ms 2048 sq := ⟨h.1.hdTorn hlen hE hk hW, h.2⟩
