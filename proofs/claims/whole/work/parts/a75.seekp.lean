/-! ===== which key a seek answers; pure; by hand ===== -/
/-- a key that has a value to a transaction -/
def VisK (ws : List aE) (vs : List aV) (m : Nat) (k : List Nat) : Prop := (∃ e ∈ ws, e.1 = k ∧ e.2 ≠ none) ∨ ((∀ e ∈ ws, ¬ e.1 = k) ∧ ∃ v ∈ vs, v.1 = k ∧ stK (kmV vs) v.1 v.2.1 m = true ∧ v.2.2.2.1 ≠ none)
def GeK (k0 : List Nat) (bey : Bool) (k : List Nat) : Prop := 0 < cmpL k k0 ∨ (bey = false ∧ k = k0)
/-- the least of the keys that may be answered -/
def SkS (vis : List Nat → Prop) (k0 : List Nat) (bey : Bool) : Option (List Nat) → Prop
  | none => ∀ k, vis k → ¬ GeK k0 bey k
  | some k => vis k ∧ GeK k0 bey k ∧ ∀ k', vis k' → GeK k0 bey k' → ¬ cmpL k' k < 0
theorem fvK_iff {k0 : List Nat} {bey : Bool} {e : aE} : fvK k0 bey e = true ↔ e.2 ≠ none ∧ GeK k0 bey e.1 := by
  unfold fvK GeK
  rw [Bool.and_eq_true, Bool.or_eq_true, Bool.and_eq_true, decide_eq_true_iff, decide_eq_true_iff, decide_eq_true_iff, cmpL_eq, Bool.not_eq_true']
  constructor
  · rintro ⟨h1, h2 | ⟨h2, h3⟩⟩
    · exact ⟨h1, Or.inl h2⟩
    · exact ⟨h1, Or.inr ⟨h3, h2⟩⟩
  · rintro ⟨h1, h2 | ⟨h2, h3⟩⟩
    · exact ⟨h1, Or.inl h2⟩
    · exact ⟨h1, Or.inr ⟨h3, h2⟩⟩
theorem fvS_none {ws : List aE} {k0 : List Nat} {bey : Bool} : ∀ {n : Nat}, fvS ws k0 bey n = none → ∀ j, j < n → ¬ fvK k0 bey (ws.getD j ([], none)) = true
  | 0, _, j, hj => absurd hj (Nat.not_lt_zero _)
  | n + 1, h, j, hj => by
    have h : fvN ws (fvS ws k0 bey n) n (fvK k0 bey (ws.getD n ([], none))) = none := h
    cases hm : fvS ws k0 bey n with
    | none =>
      rw [hm] at h
      have h : (if fvK k0 bey (ws.getD n ([], none)) = true then some n else none) = none := h
      by_cases e : fvK k0 bey (ws.getD n ([], none)) = true
      · rw [if_pos e] at h; cases h
      · by_cases ej : j = n
        · rw [ej]; exact e
        · exact fvS_none hm j (by omega)
    | some i =>
      rw [hm] at h
      have h : (if fvK k0 bey (ws.getD n ([], none)) = true ∧ 0 < cmpL (keyAt ws i) (keyAt ws n) then some n else some i) = none := h
      split at h <;> cases h
theorem fvS_some {ws : List aE} {k0 : List Nat} {bey : Bool} : ∀ {n i : Nat}, fvS ws k0 bey n = some i → i < n ∧ fvK k0 bey (ws.getD i ([], none)) = true ∧ ∀ j, j < n → fvK k0 bey (ws.getD j ([], none)) = true → ¬ cmpL (keyAt ws j) (keyAt ws i) < 0
  | 0, i, h => absurd h (Option.some_ne_none i).symm
  | n + 1, i, h => by
    have h : fvN ws (fvS ws k0 bey n) n (fvK k0 bey (ws.getD n ([], none))) = some i := h
    cases hm : fvS ws k0 bey n with
    | none =>
      rw [hm] at h
      have h : (if fvK k0 bey (ws.getD n ([], none)) = true then some n else none) = some i := h
      by_cases e : fvK k0 bey (ws.getD n ([], none)) = true
      · rw [if_pos e] at h
        rw [← Option.some.inj h]
        refine ⟨Nat.lt_succ_self _, e, fun j hj hk => ?_⟩
        by_cases ej : j = n
        · rw [ej]; exact cmpL_irr
        · exact absurd hk (fvS_none hm j (by omega))
      · rw [if_neg e] at h; cases h
    | some l =>
      obtain ⟨a1, a2, a3⟩ := fvS_some hm
      rw [hm] at h
      have h : (if fvK k0 bey (ws.getD n ([], none)) = true ∧ 0 < cmpL (keyAt ws l) (keyAt ws n) then some n else some l) = some i := h
      by_cases e : fvK k0 bey (ws.getD n ([], none)) = true ∧ 0 < cmpL (keyAt ws l) (keyAt ws n)
      · rw [if_pos e] at h
        rw [← Option.some.inj h]
        refine ⟨Nat.lt_succ_self _, e.1, fun j hj hk => ?_⟩
        by_cases ej : j = n
        · rw [ej]; exact cmpL_irr
        · intro h9
          have h8 := a3 j (by omega) hk
          have h7 : cmpL (keyAt ws n) (keyAt ws l) < 0 := by have := cmpL_anti (keyAt ws n) (keyAt ws l); omega
          exact h8 (cmpL_trans h9 h7)
      · rw [if_neg e] at h
        rw [← Option.some.inj h]
        refine ⟨by omega, a2, fun j hj hk => ?_⟩
        by_cases ej : j = n
        · rw [ej] at hk ⊢
          intro h9
          exact e ⟨hk, by have := cmpL_anti (keyAt ws n) (keyAt ws l); omega⟩
        · exact a3 j (by omega) hk
theorem okS_iff {kf : Nat → Int8} {kl mo pl : Nat → Nat} {le : Nat → Option Nat} {al : Nat → Bool} {od : Nat → Nat} {sz m p : Nat} {ws : List aE} (hs : srt kf kl mo od sz) (hp : p < sz) : okS kf kl mo le od sz m ws p ↔ (stK (kmV (vsL kf kl mo pl le al od sz)) (keyO kf kl od p) (mo (od p)) m = true ∧ ¬ le (od p) = none ∧ ∀ e ∈ ws, ¬ e.1 = keyO kf kl od p) := by
  have hmem : ∀ k b, (k, b) ∈ kmV (vsL kf kl mo pl le al od sz) ↔ ∃ q, q < sz ∧ keyO kf kl od q = k ∧ mo (od q) = b := fun k b => by
    unfold kmV vsL
    rw [List.map_map, List.mem_map]
    constructor
    · rintro ⟨q, h1, h2⟩
      have h2 : (keyO kf kl od q, mo (od q)) = (k, b) := h2
      exact ⟨q, List.mem_range.mp h1, (Prod.mk.inj h2).1, (Prod.mk.inj h2).2⟩
    · rintro ⟨q, h1, h2, h3⟩
      exact ⟨q, List.mem_range.mpr h1, by show (keyO kf kl od q, mo (od q)) = (k, b); rw [h2, h3]⟩
  have key : (mo (od p) ≤ m ∧ ((p = 0 ∨ ¬ keyO kf kl od (p - 1) = keyO kf kl od p) ∨ m < mo (od (p - 1)))) ↔ stK (kmV (vsL kf kl mo pl le al od sz)) (keyO kf kl od p) (mo (od p)) m = true := by
    rw [stK_iff]
    constructor
    · rintro ⟨h1, h2⟩
      refine ⟨h1, fun b hb hlt => ?_⟩
      obtain ⟨q, q1, q2, q3⟩ := (hmem _ _).mp hb
      have hqp : q < p := by
        rcases Nat.lt_trichotomy q p with e | e | e
        · exact e
        · rw [e] at q3; omega
        · rcases hs p q e q1 with e2 | ⟨-, e2⟩
          · have e2 : cmpL (keyO kf kl od p) (keyO kf kl od q) < 0 := e2
            rw [q2] at e2
            exact absurd e2 cmpL_irr
          · omega
      have hsame : keyO kf kl od (p - 1) = keyO kf kl od p := by
        by_cases e : q = p - 1
        · rw [← e]; exact q2
        · rcases hs q (p - 1) (by omega) (by omega) with e2 | ⟨e2, -⟩
          · rcases hs (p - 1) p (by omega) hp with e3 | ⟨e3, -⟩
            · have e2 : cmpL (keyO kf kl od q) (keyO kf kl od (p - 1)) < 0 := e2
              have e4 := cmpL_trans e2 e3
              rw [q2] at e4
              exact absurd e4 cmpL_irr
            · exact e3
          · have e2 : keyO kf kl od q = keyO kf kl od (p - 1) := e2
            rw [← e2]; exact q2
      rcases h2 with (h2 | h2) | h2
      · omega
      · exact absurd hsame h2
      · by_cases e : q = p - 1
        · rw [e] at q3; omega
        · rcases hs q (p - 1) (by omega) (by omega) with e2 | ⟨-, e2⟩
          · have e2 : cmpL (keyO kf kl od q) (keyO kf kl od (p - 1)) < 0 := e2
            rw [q2, hsame] at e2
            exact absurd e2 cmpL_irr
          · omega
    · rintro ⟨h1, h2⟩
      refine ⟨h1, ?_⟩
      by_cases e : p = 0
      · exact Or.inl (Or.inl e)
      · by_cases e2 : keyO kf kl od (p - 1) = keyO kf kl od p
        · rcases hs (p - 1) p (by omega) hp with e3 | ⟨-, e3⟩
          · have e3 : cmpL (keyO kf kl od (p - 1)) (keyO kf kl od p) < 0 := e3
            rw [e2] at e3
            exact absurd e3 cmpL_irr
          · exact Or.inr (h2 _ ((hmem _ _).mpr ⟨p - 1, by omega, e2, rfl⟩) e3)
        · exact Or.inl (Or.inr e2)
  unfold okS
  constructor
  · rintro ⟨⟨-, h1, h2⟩, h3, h4⟩
    exact ⟨key.mp ⟨h1, h2⟩, h3, h4⟩
  · rintro ⟨h1, h3, h4⟩
    obtain ⟨h5, h6⟩ := key.mpr h1
    exact ⟨⟨hp, h5, h6⟩, h3, h4⟩
theorem cut_ge {kf : Nat → Int8} {kl mo : Nat → Nat} {od : Nat → Nat} {sz k p : Nat} {k0 : List Nat} {bey : Bool} {x : Int32} (hx : x = if bey then -1 else 2147483647) (hc : cutAt kf kl mo od sz k0 x k) (hp : p < sz) (hmo : mo (od p) < 2 ^ 31) : k ≤ p ↔ GeK k0 bey (keyO kf kl od p) := by
  have hb : bef kf kl mo od k0 x p ↔ ¬ GeK k0 bey (keyO kf kl od p) := by
    unfold bef GeK
    show (cmpL (keyO kf kl od p) k0 < 0 ∨ cmpL (keyO kf kl od p) k0 = 0 ∧ x < nI (mo (od p))) ↔ _
    cases bey with
    | true =>
      have h1 : x < nI (mo (od p)) := by
        rw [hx]
        show (-1 : Int32) < nI (mo (od p))
        rw [Int32.lt_iff_toInt_lt, nI_toInt hmo]
        show (-1 : Int) < (mo (od p) : Int)
        omega
      constructor
      · rintro (h | ⟨h, -⟩) (h2 | ⟨h2, -⟩)
        · omega
        · exact Bool.noConfusion h2
        · omega
        · exact Bool.noConfusion h2
      · intro h
        have : ¬ 0 < cmpL (keyO kf kl od p) k0 := fun e => h (Or.inl e)
        by_cases e : cmpL (keyO kf kl od p) k0 = 0
        · exact Or.inr ⟨e, h1⟩
        · exact Or.inl (by omega)
    | false =>
      have h1 : ¬ x < nI (mo (od p)) := by
        rw [hx]
        show ¬ (2147483647 : Int32) < nI (mo (od p))
        rw [Int32.lt_iff_toInt_lt, nI_toInt hmo]
        show ¬ (2147483647 : Int) < (mo (od p) : Int)
        omega
      constructor
      · rintro (h | ⟨-, h⟩) (h2 | ⟨-, h2⟩)
        · omega
        · rw [h2, cmpL_self] at h; omega
        · exact h1 h
        · exact h1 h
      · intro h
        have h2 : ¬ 0 < cmpL (keyO kf kl od p) k0 := fun e => h (Or.inl e)
        have h3 : ¬ cmpL (keyO kf kl od p) k0 = 0 := fun e => h (Or.inr ⟨rfl, cmpL_eq.mp e⟩)
        exact Or.inl (by omega)
  constructor
  · intro h
    by_cases e : GeK k0 bey (keyO kf kl od p)
    · exact e
    · exact absurd (hb.mpr e) (hc.2.2 p h hp)
  · intro h
    rcases Nat.lt_or_ge p k with e | e
    · exact absurd h (hb.mp (hc.2.1 p e))
    · exact e
