/-! ===== the blocks of states: what is found behind each write, also behind one that was cut; pure; by hand ===== -/
/-- states one behind another, from the offset o on -/
def Chain (c : Nat → Int8) (m : Nat) : Nat → List Nat → Prop
  | _, [] => True
  | o, n :: ns => wholeS c m o = true ∧ stN c (m * 2048 + o) = n ∧ Chain c m (o + n) ns
set_option maxRecDepth 20000 in
theorem wholeS_iff {c : Nat → Int8} {m o : Nat} : wholeS c m o = true ↔ o + 13 ≤ 2048 ∧ ub (c (m * 2048 + o)) = 83 ∧ 13 ≤ stN c (m * 2048 + o) ∧ stN c (m * 2048 + o) ≤ 2048 - o ∧ ub (c (m * 2048 + o + stN c (m * 2048 + o) - 1)) = 90 := by
  unfold wholeS
  rw [Bool.and_eq_true, Bool.and_eq_true, Bool.and_eq_true, Bool.and_eq_true, decide_eq_true_iff, decide_eq_true_iff, decide_eq_true_iff, decide_eq_true_iff, decide_eq_true_iff]
  constructor
  · rintro ⟨⟨⟨⟨h1, h2⟩, h3⟩, h4⟩, h5⟩; exact ⟨h1, h2, h3, h4, h5⟩
  · rintro ⟨h1, h2, h3, h4, h5⟩; exact ⟨⟨⟨⟨h1, h2⟩, h3⟩, h4⟩, h5⟩
set_option maxRecDepth 20000 in
theorem stN_congr {c c' : Nat → Int8} {a : Nat} (h : ∀ q, a ≤ q → q < a + 3 → c' q = c q) : stN c' a = stN c a := by
  unfold stN
  rw [sl_congr 2 (a + 1) (a + 1) (fun q hq => h (a + 1 + q) (by omega) (by omega))]
set_option maxRecDepth 20000 in
theorem wholeS_congr {c c' : Nat → Int8} {m o e : Nat} (h : ∀ q, m * 2048 ≤ q → q < m * 2048 + e → c' q = c q) (h1 : wholeS c m o = true) (h2 : o + stN c (m * 2048 + o) ≤ e) : wholeS c' m o = true ∧ stN c' (m * 2048 + o) = stN c (m * 2048 + o) := by
  obtain ⟨a1, a2, a3, a4, a5⟩ := wholeS_iff.mp h1
  have hn : stN c' (m * 2048 + o) = stN c (m * 2048 + o) := stN_congr (fun q q1 q2 => h q (by omega) (by omega))
  refine ⟨wholeS_iff.mpr ⟨a1, ?_, ?_, ?_, ?_⟩, hn⟩
  · rw [h _ (by omega) (by omega)]; exact a2
  · rw [hn]; exact a3
  · rw [hn]; exact a4
  · rw [hn, h _ (by omega) (by omega)]; exact a5
set_option maxRecDepth 20000 in
theorem Chain.le {c : Nat → Int8} {m : Nat} : ∀ {o : Nat} {ns : List Nat}, Chain c m o ns → o ≤ 2048 → o + ns.sum ≤ 2048 ∧ 13 * ns.length ≤ ns.sum
  | o, [], _, h => ⟨by simpa using h, by simp⟩
  | o, n :: ns, ⟨h1, h2, h3⟩, h => by
    obtain ⟨a1, a2, a3, a4, a5⟩ := wholeS_iff.mp h1
    obtain ⟨i1, i2⟩ := Chain.le h3 (by omega)
    rw [List.sum_cons, List.length_cons]
    omega
set_option maxRecDepth 20000 in
theorem Chain.congr {c c' : Nat → Int8} {m e : Nat} (h : ∀ q, m * 2048 ≤ q → q < m * 2048 + e → c' q = c q) : ∀ {o : Nat} {ns : List Nat}, Chain c m o ns → o + ns.sum ≤ e → Chain c' m o ns
  | o, [], _, _ => trivial
  | o, n :: ns, ⟨h1, h2, h3⟩, he => by
    rw [List.sum_cons] at he
    obtain ⟨w1, w2⟩ := wholeS_congr h h1 (by omega)
    exact ⟨w1, w2.trans h2, Chain.congr h h3 (by omega)⟩
set_option maxRecDepth 20000 in
theorem Chain.snoc {c : Nat → Int8} {m n : Nat} : ∀ {o : Nat} {ns : List Nat}, Chain c m o ns → wholeS c m (o + ns.sum) = true → stN c (m * 2048 + (o + ns.sum)) = n → Chain c m o (ns ++ [n])
  | o, [], _, h1, h2 => by
    rw [List.sum_nil, Nat.add_zero] at h1 h2
    exact ⟨h1, h2, trivial⟩
  | o, k :: ns, ⟨a1, a2, a3⟩, h1, h2 => by
    rw [List.sum_cons, show o + (k + ns.sum) = o + k + ns.sum by omega] at h1 h2
    exact ⟨a1, a2, Chain.snoc a3 h1 h2⟩
/-- the last of a chain -/
def lastA (m : Nat) : Nat → List Nat → Option Nat → Option Nat
  | _, [], l => l
  | o, n :: ns, _ => lastA m (o + n) ns (some (m * 2048 + o))
set_option maxRecDepth 20000 in
theorem lastA_snoc {m n : Nat} : ∀ {o : Nat} {ns : List Nat} {l : Option Nat}, lastA m o (ns ++ [n]) l = some (m * 2048 + (o + ns.sum))
  | o, [], l => by rw [List.sum_nil, Nat.add_zero]; rfl
  | o, k :: ns, l => by
    show lastA m (o + k) (ns ++ [n]) _ = _
    rw [lastA_snoc, List.sum_cons, Nat.add_assoc]
set_option maxRecDepth 20000 in
theorem lastF_chain {c : Nat → Int8} {m : Nat} (h77 : ub (c (m * 2048)) = 77) : ∀ {ns : List Nat} {o k : Nat} {l : Option Nat}, Chain c m o ns → ns.length ≤ k → lastF c m k o l = lastF c m (k - ns.length) (o + ns.sum) (lastA m o ns l)
  | [], o, k, l, _, _ => by rw [List.sum_nil, Nat.add_zero]; rfl
  | n :: ns, o, k, l, ⟨h1, h2, h3⟩, hk => by
    obtain ⟨j, rfl⟩ : ∃ j, k = j + 1 := ⟨k - 1, by rw [List.length_cons] at hk; omega⟩
    rw [List.length_cons] at hk
    rw [lastF, if_pos ⟨h77, h1⟩, h2, lastF_chain h77 h3 (by omega), List.length_cons, List.sum_cons, Nat.add_assoc]
    show lastF c m (j - ns.length) _ _ = lastF c m (j + 1 - (ns.length + 1)) _ _
    rw [Nat.add_sub_add_right]
    rfl
set_option maxRecDepth 20000 in
theorem lastF_stop {c : Nat → Int8} {m k o : Nat} {l : Option Nat} (h : ¬ (ub (c (m * 2048)) = 77 ∧ wholeS c m o = true)) : lastF c m k o l = l := by
  cases k with
  | zero => rfl
  | succ k => rw [lastF, if_neg h]
set_option maxRecDepth 20000 in
theorem lastF_eq {c : Nat → Int8} {m : Nat} {ns : List Nat} (h77 : ub (c (m * 2048)) = 77) (h1 : Chain c m 5 ns) (h2 : ¬ wholeS c m (5 + ns.sum) = true) : lastF c m 2048 5 none = lastA m 5 ns none := by
  have := h1.le (by omega)
  rw [lastF_chain h77 h1 (by omega), lastF_stop (fun e => h2 e.2)]
set_option maxRecDepth 20000 in
theorem lastF_congr {c c' : Nat → Int8} {m : Nat} (h : ∀ q, m * 2048 ≤ q → q < m * 2048 + 2051 → c' q = c q) : ∀ (k o : Nat) (l : Option Nat), o ≤ 2048 → lastF c' m k o l = lastF c m k o l
  | 0, _, _, _ => rfl
  | k + 1, o, l, ho => by
    rw [lastF, lastF]
    have hn : stN c' (m * 2048 + o) = stN c (m * 2048 + o) := stN_congr (fun q q1 q2 => h q (by omega) (by omega))
    have hw : (wholeS c' m o = true) ↔ (wholeS c m o = true) := by
      rw [wholeS_iff, wholeS_iff, hn, h (m * 2048 + o) (by omega) (by omega)]
      constructor
      · rintro ⟨a1, a2, a3, a4, a5⟩; exact ⟨a1, a2, a3, a4, by rw [← h _ (by omega) (by omega)]; exact a5⟩
      · rintro ⟨a1, a2, a3, a4, a5⟩; exact ⟨a1, a2, a3, a4, by rw [h _ (by omega) (by omega)]; exact a5⟩
    rw [h (m * 2048) (by omega) (by omega), hn]
    by_cases e : ub (c (m * 2048)) = 77 ∧ wholeS c m o = true
    · rw [if_pos e, if_pos ⟨e.1, hw.mpr e.2⟩]
      obtain ⟨a1, a2, a3, a4, a5⟩ := wholeS_iff.mp e.2
      exact lastF_congr h k _ _ (by omega)
    · rw [if_neg e, if_neg (fun e2 => e ⟨e2.1, hw.mp e2.2⟩)]
set_option maxRecDepth 20000 in
/-- a state's bytes make a whole state -/
theorem enc_whole {c : Nat → Int8} {m o P fr ff : Nat} {lgs : List Nat} {rs : List aR} (h : sl c (m * 2048 + o) (encS P fr ff lgs rs).length = encS P fr ff lgs rs) (hfit : o + (encS P fr ff lgs rs).length ≤ 2048) : wholeS c m o = true ∧ stN c (m * 2048 + o) = (encS P fr ff lgs rs).length := by
  obtain ⟨s1, s2, -, -, -, -, -, -, -, s10⟩ := encS_parts h
  have hel := encS_len (P := P) (fr := fr) (ff := ff) (lgs := lgs) (rs := rs)
  have hbl : (encB P fr ff lgs rs).length = 9 + lgs.length + (rs.flatMap encR).length := by
    unfold encB
    rw [List.length_append, List.length_append, List.length_append, List.length_append, List.length_append, List.length_append, beB_len, beB_len, beB_len, beB_len, beB_len, fm_len1]
    omega
  have hn : stN c (m * 2048 + o) = (encS P fr ff lgs rs).length := by
    unfold stN
    rw [s2, beN_beB0 (by omega)]
  refine ⟨wholeS_iff.mpr ⟨by omega, s1, by rw [hn]; omega, by rw [hn]; omega, ?_⟩, hn⟩
  rw [hn]
  exact s10
/-- bytes that are erased -/
def Ers (c : Nat → Int8) (a b : Nat) : Prop := ∀ q, a ≤ q → q < b → ub (c q) = 255
set_option maxRecDepth 20000 in
/-- a state that was cut is not whole -/
theorem torn_state {c c' : Nat → Int8} {m o k P fr ff : Nat} {lgs : List Nat} {rs : List aR} (hE : Ers c (m * 2048 + o) (m * 2048 + 2048)) (hW : WrP c c' (m * 2048 + o) ((encS P fr ff lgs rs).take k)) (hk : k < (encS P fr ff lgs rs).length) (hfit : o + (encS P fr ff lgs rs).length ≤ 2048) : ¬ wholeS c' m o = true := by
  intro h
  obtain ⟨a1, a2, a3, a4, a5⟩ := wholeS_iff.mp h
  obtain ⟨w1, w2⟩ := hW
  have hl : ((encS P fr ff lgs rs).take k).length = k := by rw [List.length_take]; omega
  rw [hl] at w1 w2
  have hrest : ∀ q, m * 2048 + o + k ≤ q → q < m * 2048 + 2048 → ub (c' q) = 255 := fun q q1 q2 => by
    rw [w2 q (Or.inr q1)]
    exact hE q (by omega) q2
  have hel := encS_len (P := P) (fr := fr) (ff := ff) (lgs := lgs) (rs := rs)
  by_cases hk3 : k < 3
  · -- the length is not known: its last byte is erased
    by_cases hk0 : k = 0
    · rw [hrest _ (by omega) (by omega)] at a2
      omega
    · have hlow : ub (c' (m * 2048 + o + 2)) = 255 := hrest _ (by omega) (by omega)
      have hn : stN c' (m * 2048 + o) = ub (c' (m * 2048 + o + 1)) * 256 + 255 := by
        show (0 * 256 + ub (c' (m * 2048 + o + 1))) * 256 + ub (c' (m * 2048 + o + 1 + 1)) = _
        rw [show m * 2048 + o + 1 + 1 = m * 2048 + o + 2 by omega, hlow]
        omega
      rw [hrest _ (by omega) (by omega)] at a5
      omega
  · -- the length is known, the end is not there
    have hn : stN c' (m * 2048 + o) = (encS P fr ff lgs rs).length := by
      have e1 : sl c' (m * 2048 + o + 1) 2 = beB 2 (encS P fr ff lgs rs).length := by
        have e2 : sl c' (m * 2048 + o) 3 = (encS P fr ff lgs rs).take 3 := by
          rw [← sl_take k 3 _ (by omega), w1, List.take_take, Nat.min_eq_left (by omega)]
        have e3 : (encS P fr ff lgs rs).take 3 = [83] ++ beB 2 (encS P fr ff lgs rs).length := by
          rw [hel]
          unfold encS
          show 83 :: List.take 2 (beB 2 _ ++ _) = _
          rw [List.take_append_of_le_length (by rw [beB_len]; omega), List.take_of_length_le (by rw [beB_len]; omega)]
          rfl
        rw [e3] at e2
        exact (sl_split (n := 1) (m := 2) e2 rfl).2
      unfold stN
      rw [e1, beN_beB0 (by omega)]
    rw [hn, hrest _ (by omega) (by omega)] at a5
    omega
