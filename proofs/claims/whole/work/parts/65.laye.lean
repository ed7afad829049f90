/-! ===== entries that lie one behind another: a key and, behind it, a value; pure ===== -/
/-- a key with a value, or with none -/
abbrev aE : Type := List Nat × Option (List Nat)
def eLen (e : aE) : Nat := e.1.length + (e.2.getD []).length
/-- where the entry i begins -/
def eOff : List aE → Nat → Nat
  | _, 0 => 0
  | [], _ + 1 => 0
  | e :: ws, i + 1 => eLen e + eOff ws i
theorem eOff_succ : ∀ {ws : List aE} {i : Nat} {e : aE}, ws[i]? = some e → eOff ws (i + 1) = eOff ws i + eLen e
  | e :: ws, 0, e', h => by
    have h1 : e = e' := by simpa using h
    rw [h1, eOff]
    cases ws <;> simp [eOff]
  | e :: ws, i + 1, e', h => by
    rw [eOff, eOff, eOff_succ (ws := ws) (i := i) (e := e') (by simpa using h)]
    omega
theorem eOff_le : ∀ (ws : List aE) (i : Nat), eOff ws i ≤ eOff ws (i + 1)
  | [], 0 => Nat.zero_le _
  | [], _ + 1 => Nat.le_refl _
  | e :: ws, 0 => Nat.zero_le _
  | e :: ws, i + 1 => by
    rw [eOff, eOff]
    have := eOff_le ws i
    omega
theorem eOff_mono (ws : List aE) {i j : Nat} (h : i ≤ j) : eOff ws i ≤ eOff ws j := by
  induction h with
  | refl => exact Nat.le_refl _
  | step _ ih => exact Nat.le_trans ih (eOff_le ws _)
theorem eOff_snoc : ∀ (ws : List aE) (e : aE) (i : Nat), i ≤ ws.length → eOff (ws ++ [e]) i = eOff ws i
  | _, _, 0, _ => by cases ‹List aE› <;> rfl
  | [], _, i + 1, h => absurd h (by simp)
  | a :: ws, e, i + 1, h => by
    rw [List.cons_append, eOff, eOff, eOff_snoc ws e i (by simpa using h)]
theorem eOff_erase_le : ∀ (ws : List aE) (i j : Nat), j ≤ i → eOff (ws.eraseIdx i) j = eOff ws j
  | ws, _, 0, _ => by cases ws.eraseIdx _ <;> cases ws <;> rfl
  | [], _, _ + 1, _ => rfl
  | a :: ws, 0, j + 1, h => absurd h (by omega)
  | a :: ws, i + 1, j + 1, h => by
    rw [List.eraseIdx_cons_succ, eOff, eOff, eOff_erase_le ws i j (by omega)]
theorem eOff_erase_ge : ∀ {ws : List aE} {i j : Nat} {e : aE}, ws[i]? = some e → i ≤ j → eOff (ws.eraseIdx i) j + eLen e = eOff ws (j + 1)
  | a :: ws, 0, j, e, h, _ => by
    have h1 : a = e := by simpa using h
    rw [h1, List.eraseIdx_cons_zero, eOff]
    omega
  | a :: ws, i + 1, 0, e, h, h2 => absurd h2 (by omega)
  | a :: ws, i + 1, j + 1, e, h, h2 => by
    rw [List.eraseIdx_cons_succ, eOff, eOff]
    have := eOff_erase_ge (ws := ws) (i := i) (j := j) (e := e) (by simpa using h) (by omega)
    omega
/-- the entries lie there -/
def LayE (D : Nat → Int8) (b : Nat) (S K : Nat → Nat) (E : Nat → Option Nat) (ws : List aE) : Prop := ∀ i e, ws[i]? = some e → S i = b + eOff ws i ∧ K i = e.1.length ∧ E i = e.2.map List.length ∧ sl D (b + eOff ws i) (eLen e) = e.1 ++ e.2.getD []
theorem LayE.key {D : Nat → Int8} {b : Nat} {S K : Nat → Nat} {E : Nat → Option Nat} {ws : List aE} (h : LayE D b S K E ws) {i : Nat} {e : aE} (hi : ws[i]? = some e) : sl D (S i) (K i) = e.1 := by
  obtain ⟨h1, h2, -, h4⟩ := h i e hi
  rw [eLen, sl_append] at h4
  have h5 := (List.append_inj h4 (by rw [sl_length])).1
  rw [h1, h2]
  exact h5
theorem LayE.val {D : Nat → Int8} {b : Nat} {S K : Nat → Nat} {E : Nat → Option Nat} {ws : List aE} (h : LayE D b S K E ws) {i : Nat} {k x : List Nat} (hi : ws[i]? = some (k, some x)) : sl D (S i + K i) x.length = x := by
  obtain ⟨h1, h2, -, h4⟩ := h i _ hi
  rw [eLen, sl_append] at h4
  have h5 := (List.append_inj h4 (by rw [sl_length])).2
  rw [h1, h2]
  exact h5
theorem eGet {E : Nat → Option Nat} {e : aE} {i : Nat} (h : E i = e.2.map List.length) : (E i).getD 0 = (e.2.getD []).length := by
  rw [h]
  cases e.2 <;> rfl
/-- one more at the end -/
theorem LayE.snoc {D D' : Nat → Int8} {b : Nat} {S K S' K' : Nat → Nat} {E E' : Nat → Option Nat} {ws : List aE} {e : aE} (h : LayE D b S K E ws) (hD : ∀ q, b ≤ q → q < b + eOff ws ws.length → D' q = D q) (hS : ∀ i, i < ws.length → S' i = S i ∧ K' i = K i ∧ E' i = E i) (h1 : S' ws.length = b + eOff ws ws.length) (h2 : K' ws.length = e.1.length) (h3 : E' ws.length = e.2.map List.length) (h4 : sl D' (b + eOff ws ws.length) (eLen e) = e.1 ++ e.2.getD []) : LayE D' b S' K' E' (ws ++ [e]) := by
  intro i e' hi
  rcases Nat.lt_or_ge i ws.length with hl | hl
  · rw [List.getElem?_append_left hl] at hi
    obtain ⟨g1, g2, g3, g4⟩ := h i e' hi
    obtain ⟨k1, k2, k3⟩ := hS i hl
    rw [eOff_snoc ws e i (by omega), k1, k2, k3]
    refine ⟨g1, g2, g3, ?_⟩
    rw [← g4]
    refine sl_congr _ _ _ (fun q hq => hD _ (by omega) ?_)
    have h5 := eOff_succ hi
    have h6 := eOff_mono ws (show i + 1 ≤ ws.length by omega)
    omega
  · rw [List.getElem?_append_right hl] at hi
    have e1 : i - ws.length = 0 := by
      rcases Nat.eq_zero_or_pos (i - ws.length) with e1 | e1
      · exact e1
      · rw [List.getElem?_eq_none (by simp; omega)] at hi; cases hi
    rw [e1] at hi
    have e2 : e = e' := by simpa using hi
    have e3 : i = ws.length := by omega
    subst e2 e3
    rw [eOff_snoc ws e _ (Nat.le_refl _)]
    exact ⟨h1, h2, h3, h4⟩
/-- one taken out -/
theorem LayE.erase {D D' : Nat → Int8} {b i : Nat} {S K S' K' : Nat → Nat} {E E' : Nat → Option Nat} {ws : List aE} {e : aE} (h : LayE D b S K E ws) (hi : ws[i]? = some e) (hD1 : ∀ q, b ≤ q → q < b + eOff ws i → D' q = D q) (hD2 : ∀ q, b + eOff ws i ≤ q → q + eLen e < b + eOff ws ws.length → D' q = D (q + eLen e)) (hS1 : ∀ j, j < i → S' j = S j ∧ K' j = K j ∧ E' j = E j) (hS2 : ∀ j, i ≤ j → j + 1 < ws.length → S' j = S (j + 1) - eLen e ∧ K' j = K (j + 1) ∧ E' j = E (j + 1)) : LayE D' b S' K' E' (ws.eraseIdx i) := by
  have hl : i < ws.length := (List.getElem?_eq_some_iff.mp hi).1
  intro j e' hj
  rw [List.getElem?_eraseIdx] at hj
  by_cases h1 : j < i
  · rw [if_pos h1] at hj
    obtain ⟨g1, g2, g3, g4⟩ := h j e' hj
    obtain ⟨k1, k2, k3⟩ := hS1 j h1
    rw [eOff_erase_le ws i j (by omega), k1, k2, k3]
    refine ⟨g1, g2, g3, ?_⟩
    rw [← g4]
    refine sl_congr _ _ _ (fun q hq => hD1 _ (by omega) ?_)
    have h5 := eOff_succ hj
    have h6 := eOff_mono ws (show j + 1 ≤ i by omega)
    omega
  · rw [if_neg h1] at hj
    have hl2 : j + 1 < ws.length := (List.getElem?_eq_some_iff.mp hj).1
    obtain ⟨g1, g2, g3, g4⟩ := h (j + 1) e' hj
    obtain ⟨k1, k2, k3⟩ := hS2 j (by omega) hl2
    have h7 := eOff_erase_ge (j := j) hi (by omega)
    have h8 := eOff_succ hi
    have h9 := eOff_mono ws (show i + 1 ≤ j + 1 by omega)
    rw [k1, k2, k3]
    refine ⟨by omega, g2, g3, ?_⟩
    rw [← g4]
    refine sl_congr _ _ _ (fun q hq => ?_)
    have h5 := eOff_succ hj
    have h6 := eOff_mono ws (show j + 1 + 1 ≤ ws.length by omega)
    have h10 := eOff_erase_le ws i i (Nat.le_refl i)
    rw [hD2 (b + eOff (ws.eraseIdx i) j + q) (by omega) (by omega), show b + eOff (ws.eraseIdx i) j + q + eLen e = b + eOff ws (j + 1) + q by omega]
