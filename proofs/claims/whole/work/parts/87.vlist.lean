/-! ===== the versions in memory as a sorted list: what is needed, by members alone; by hand ===== -/
def keyO (kf : Nat → Int8) (kl od : Nat → Nat) (p : Nat) : List Nat := sl kf (od p * 41) (kl (od p))
/-- sorted by keys, the newest first -/
def srt (kf : Nat → Int8) (kl mo od : Nat → Nat) (sz : Nat) : Prop := ∀ p q, p < q → q < sz → cmpL (keyO kf kl od p) (keyO kf kl od q) < 0 ∨ keyO kf kl od p = keyO kf kl od q ∧ mo (od q) < mo (od p)
theorem bef_down {kf : Nat → Int8} {kl mo od : Nat → Nat} {sz : Nat} {key : List Nat} {x : Int32} (hs : srt kf kl mo od sz) (hmo : ∀ p, p < sz → mo (od p) < 2 ^ 31) {p q : Nat} (h : p < q) (hq : q < sz) (hb : bef kf kl mo od key x q) : bef kf kl mo od key x p := by
  have hp := hmo p (by omega)
  have hq2 := hmo q hq
  rcases hs p q h hq with e | ⟨e1, e2⟩
  · rcases hb with b | ⟨b1, _⟩
    · exact Or.inl (cmpL_trans e b)
    · refine Or.inl ?_
      rw [← cmpL_eq.mp b1]
      exact e
  · rcases hb with b | ⟨b1, b2⟩
    · refine Or.inl ?_
      unfold keyO at e1
      rw [e1]
      exact b
    · refine Or.inr ⟨?_, ?_⟩
      · unfold keyO at e1
        rw [e1]
        exact b1
      · exact Int32.lt_trans b2 (nI_lt e2 hp)
theorem cut_ex {kf : Nat → Int8} {kl mo od : Nat → Nat} {sz : Nat} (key : List Nat) (x : Int32) (hs : srt kf kl mo od sz) (hmo : ∀ p, p < sz → mo (od p) < 2 ^ 31) : ∃ k, cutAt kf kl mo od sz key x k := by
  have h : ∀ n, n ≤ sz → ∃ k, k ≤ n ∧ (∀ p, p < k → bef kf kl mo od key x p) ∧ ∀ p, k ≤ p → p < n → ¬ bef kf kl mo od key x p := by
    intro n
    induction n with
    | zero => exact fun _ => ⟨0, Nat.le_refl 0, fun p hp => absurd hp (Nat.not_lt_zero p), fun p _ hp => absurd hp (Nat.not_lt_zero p)⟩
    | succ n ih =>
      intro hn
      obtain ⟨k, h1, h2, h3⟩ := ih (by omega)
      by_cases e : k = n
      · by_cases hb : bef kf kl mo od key x n
        · refine ⟨n + 1, Nat.le_refl _, fun p hp => ?_, fun p h4 h5 => absurd h4 (by omega)⟩
          by_cases e2 : p = n
          · rw [e2]; exact hb
          · exact h2 p (by omega)
        · refine ⟨n, by omega, fun p hp => h2 p (by omega), fun p h4 h5 => ?_⟩
          rw [show p = n by omega]
          exact hb
      · refine ⟨k, by omega, h2, fun p h4 h5 hb => ?_⟩
        by_cases e2 : p = n
        · rw [e2] at hb
          exact h3 k (Nat.le_refl k) (by omega) (bef_down hs hmo (by omega) (by omega) hb)
        · exact h3 p h4 (by omega) hb
  obtain ⟨k, h1, h2, h3⟩ := h sz (Nat.le_refl sz)
  exact ⟨k, h1, h2, h3⟩
theorem cmpL_irr {xs : List Nat} : ¬ cmpL xs xs < 0 := by
  rw [cmpL_self]
  omega
theorem cmpL_asym {xs ys : List Nat} (h : cmpL xs ys < 0) : ¬ cmpL ys xs < 0 := by
  rw [cmpL_anti]
  omega
/-- among versions of one key the earlier position is the newer -/
theorem srt_mo {kf : Nat → Int8} {kl mo od : Nat → Nat} {sz p q : Nat} (hs : srt kf kl mo od sz) (hp : p < sz) (hq : q < sz) (he : keyO kf kl od p = keyO kf kl od q) (h : mo (od q) < mo (od p)) : p < q := by
  rcases Nat.lt_trichotomy p q with e | e | e
  · exact e
  · rw [e] at h; omega
  · rcases hs q p e hp with e2 | ⟨_, e2⟩
    · rw [he] at e2
      exact absurd e2 cmpL_irr
    · omega
/-- what lies between two of one key is of that key -/
theorem srt_mid {kf : Nat → Int8} {kl mo od : Nat → Nat} {sz p q r : Nat} (hs : srt kf kl mo od sz) (h1 : p < q) (h2 : q < r) (hr : r < sz) (he : keyO kf kl od p = keyO kf kl od r) : keyO kf kl od q = keyO kf kl od r := by
  rcases hs p q h1 (by omega) with e | ⟨e, _⟩
  · rcases hs q r h2 hr with e2 | ⟨e2, _⟩
    · have := cmpL_trans e e2
      rw [he] at this
      exact absurd this cmpL_irr
    · exact e2
  · rw [← e, he]
theorem nwB_pos {kf : Nat → Int8} {kl od : Nat → Nat} {p : Nat} : nwB kf kl od p = true ↔ p = 0 ∨ ¬ keyO kf kl od (p - 1) = keyO kf kl od p := (nwB_iff p).symm
theorem nw_iff {kf : Nat → Int8} {kl mo od : Nat → Nat} {sz p : Nat} (hs : srt kf kl mo od sz) (hp : p < sz) : nwB kf kl od p = true ↔ ∀ q, q < sz → keyO kf kl od q = keyO kf kl od p → ¬ mo (od p) < mo (od q) := by
  rw [nwB_pos]
  constructor
  · intro h q hq he hm
    have h1 := srt_mo hs hq hp he hm
    rcases h with h | h
    · omega
    · by_cases e : q = p - 1
      · rw [e] at he; exact h he
      · exact h (srt_mid hs (p := q) (q := p - 1) (r := p) (by omega) (by omega) hp he)
  · intro h
    by_cases e : p = 0
    · exact Or.inl e
    · refine Or.inr (fun he => ?_)
      rcases hs (p - 1) p (by omega) hp with e2 | ⟨_, e2⟩
      · rw [he] at e2; exact cmpL_irr e2
      · exact h (p - 1) (by omega) he e2
theorem nr_least {kf : Nat → Int8} {kl mo od : Nat → Nat} {sz p : Nat} (hs : srt kf kl mo od sz) (hp : p < sz) (h : nwB kf kl od p = false) : (∃ q, q < sz ∧ keyO kf kl od q = keyO kf kl od p ∧ mo (od q) = nrB kf kl mo od p) ∧ mo (od p) < nrB kf kl mo od p ∧ ∀ q, q < sz → keyO kf kl od q = keyO kf kl od p → mo (od p) < mo (od q) → nrB kf kl mo od p ≤ mo (od q) := by
  have h0 : ¬ (p = 0 ∨ ¬ keyO kf kl od (p - 1) = keyO kf kl od p) := fun e => by
    rw [nwB_pos.mpr e] at h; cases h
  have hp0 : ¬ p = 0 := fun e => h0 (Or.inl e)
  have he : keyO kf kl od (p - 1) = keyO kf kl od p := Classical.byContradiction (fun e => h0 (Or.inr e))
  have hr : nrB kf kl mo od p = mo (od (p - 1)) := by
    cases p with
    | zero => exact absurd rfl hp0
    | succ p =>
      show (if nwB kf kl od (p + 1) = true then 0 else mo (od p)) = mo (od p)
      rw [h]
      rfl
  rw [hr]
  refine ⟨⟨p - 1, by omega, he, rfl⟩, ?_, fun q hq hk hm => ?_⟩
  · rcases hs (p - 1) p (by omega) hp with e2 | ⟨_, e2⟩
    · rw [he] at e2; exact absurd e2 cmpL_irr
    · exact e2
  · have h1 := srt_mo hs hq hp hk hm
    by_cases e : q = p - 1
    · rw [e]; exact Nat.le_refl _
    · rcases hs q (p - 1) (by omega) (by omega) with e2 | ⟨_, e2⟩
      · rw [hk, he] at e2; exact absurd e2 cmpL_irr
      · omega
/-- of key k the version of moment a stands at the moment m, among L -/
def stK (L : List (List Nat × Nat)) (k : List Nat) (a m : Nat) : Bool := decide (a ≤ m) && L.all (fun w => !(decide (w.1 = k) && decide (a < w.2) && decide (w.2 ≤ m)))
theorem stK_iff {L : List (List Nat × Nat)} {k : List Nat} {a m : Nat} : stK L k a m = true ↔ a ≤ m ∧ ∀ b, (k, b) ∈ L → a < b → m < b := by
  unfold stK
  rw [Bool.and_eq_true, decide_eq_true_iff, List.all_eq_true]
  constructor
  · rintro ⟨h1, h2⟩
    refine ⟨h1, fun b hb hab => Nat.lt_of_not_le (fun hbm => ?_)⟩
    have h3 := h2 _ hb
    rw [decide_eq_true (show (k, b).1 = k from rfl), decide_eq_true (show a < (k, b).2 from hab), decide_eq_true (show (k, b).2 ≤ m from hbm)] at h3
    cases h3
  · rintro ⟨h1, h2⟩
    refine ⟨h1, fun w hw => ?_⟩
    by_cases e1 : w.1 = k
    · by_cases e2 : a < w.2
      · have h3 := h2 w.2 (by rw [← e1]; exact hw) e2
        rw [decide_eq_false (show ¬ w.2 ≤ m by omega), Bool.and_false]
        rfl
      · rw [decide_eq_false e2, Bool.and_false, Bool.false_and]
        rfl
    · rw [decide_eq_false e1, Bool.false_and, Bool.false_and]
      rfl
theorem stK_congr {L L' : List (List Nat × Nat)} {k : List Nat} {a m : Nat} (h : ∀ b, a < b → ((k, b) ∈ L ↔ (k, b) ∈ L')) : stK L k a m = stK L' k a m := by
  rw [Bool.eq_iff_iff, stK_iff, stK_iff]
  constructor
  · rintro ⟨h1, h2⟩
    exact ⟨h1, fun b hb hab => h2 b ((h b hab).mpr hb) hab⟩
  · rintro ⟨h1, h2⟩
    exact ⟨h1, fun b hb hab => h2 b ((h b hab).mp hb) hab⟩
/-- a version in memory: key, moment, place, length, whether it is alone -/
abbrev aV : Type := List Nat × Nat × Nat × Option Nat × Bool
def verO (kf : Nat → Int8) (kl mo pl : Nat → Nat) (le : Nat → Option Nat) (al : Nat → Bool) (s : Nat) : aV := (sl kf (s * 41) (kl s), mo s, pl s, le s, al s)
def vsL (kf : Nat → Int8) (kl mo pl : Nat → Nat) (le : Nat → Option Nat) (al : Nat → Bool) (od : Nat → Nat) (sz : Nat) : List aV := (List.range sz).map (fun p => verO kf kl mo pl le al (od p))
def kmV (vs : List aV) : List (List Nat × Nat) := vs.map (fun v => (v.1, v.2.1))
/-- whether a version is needed, among those of L -/
def needS (op : Nat → Bool) (sm : Nat → Nat) (x : Int32) (pr : Nat) (L : List (List Nat × Nat)) (us ou : Bool) (k : List Nat) (m : Nat) : Bool := if us = false then stK L k m pr && !ou else (!ou || opA op x (fun t => decide (sm t < m)) 8) && (stK L k m pr || opA op x (fun t => stK L k m (sm t)) 8)
theorem mem_kmV {kf : Nat → Int8} {kl mo pl : Nat → Nat} {le : Nat → Option Nat} {al : Nat → Bool} {od : Nat → Nat} {sz : Nat} {k : List Nat} {b : Nat} : (k, b) ∈ kmV (vsL kf kl mo pl le al od sz) ↔ ∃ q, q < sz ∧ keyO kf kl od q = k ∧ mo (od q) = b := by
  unfold kmV vsL
  rw [List.map_map, List.mem_map]
  constructor
  · rintro ⟨q, hq, e⟩
    have e := Prod.mk.inj e
    exact ⟨q, List.mem_range.mp hq, e.1, e.2⟩
  · rintro ⟨q, hq, e1, e2⟩
    exact ⟨q, List.mem_range.mpr hq, Prod.ext e1 e2⟩
theorem any_congr {P Q : Nat → Bool} {n : Nat} (h : ∀ i, i < n → P i = Q i) : (List.range n).any P = (List.range n).any Q := by
  induction n with
  | zero => rfl
  | succ n ih =>
    rw [any_succ, any_succ, ih (fun i hi => h i (by omega)), h n (by omega)]
theorem opA_congr {op : Nat → Bool} {x : Int32} {P Q : Nat → Bool} {n : Nat} (h : ∀ t, t < n → op t = true → P t = Q t) : opA op x P n = opA op x Q n := by
  unfold opA
  refine any_congr (fun t ht => ?_)
  cases ho : op t with
  | false => rfl
  | true => rw [h t ht ho]
/-- what the class tells by neighbours is told by members -/
theorem nd_eq {kf : Nat → Int8} {kl mo pl : Nat → Nat} {le : Nat → Option Nat} {al : Nat → Bool} {od : Nat → Nat} {sz p pr : Nat} {op : Nat → Bool} {sm : Nat → Nat} {x : Int32} (hs : srt kf kl mo od sz) (hp : p < sz) (hpr : ∀ q, q < sz → mo (od q) ≤ pr) : ndB op sm kf kl mo le od x p = needS op sm x pr (kmV (vsL kf kl mo pl le al od sz)) (decide (ub (kf (od p * 41)) = 0)) (decide (le (od p) = none)) (keyO kf kl od p) (mo (od p)) := by
  unfold ndB isN needS
  have hst : stK (kmV (vsL kf kl mo pl le al od sz)) (keyO kf kl od p) (mo (od p)) pr = nwB kf kl od p := by
    rw [Bool.eq_iff_iff, stK_iff, nw_iff hs hp]
    constructor
    · rintro ⟨_, h2⟩ q hq hk hm
      have := h2 (mo (od q)) (mem_kmV.mpr ⟨q, hq, hk, rfl⟩) hm
      have := hpr q hq
      omega
    · intro h
      refine ⟨hpr p hp, fun b hb hab => ?_⟩
      obtain ⟨q, hq, hk, e⟩ := mem_kmV.mp hb
      rw [← e] at hab
      exact absurd hab (h q hq hk)
  rw [hst]
  have hB : aB op sm (mo (od p)) x = opA op x (fun t => decide (sm t < mo (od p))) 8 := rfl
  rw [hB]
  split
  · rfl
  · split
    · next h => rw [h.1, h.2]; rfl
    · next h =>
      have h1 : (!decide (le (od p) = none) || opA op x (fun t => decide (sm t < mo (od p))) 8) = true := by
        cases h2 : decide (le (od p) = none) with
        | false => rfl
        | true =>
          cases h3 : opA op x (fun t => decide (sm t < mo (od p))) 8 with
          | true => rfl
          | false => exact absurd ⟨h2, h3⟩ h
      rw [h1, Bool.true_and]
      cases hn : nwB kf kl od p with
      | true => rfl
      | false =>
        rw [Bool.false_or, Bool.false_or]
        obtain ⟨⟨r, hr, hrk, hrm⟩, h4, h5⟩ := nr_least hs hp hn
        refine opA_congr (fun t _ _ => ?_)
        rw [Bool.eq_iff_iff, stK_iff, Bool.and_eq_true, decide_eq_true_iff, decide_eq_true_iff]
        constructor
        · rintro ⟨h6, h7⟩
          refine ⟨h6, fun b hb hab => ?_⟩
          obtain ⟨q, hq, hk, e⟩ := mem_kmV.mp hb
          have := h5 q hq hk (by omega)
          omega
        · rintro ⟨h6, h7⟩
          refine ⟨h6, h7 _ (mem_kmV.mpr ⟨r, hr, hrk, hrm⟩) h4⟩
