/-! ===== what a key has at a moment: in the class's list, in the reference's; pure; by hand ===== -/
/-- the record of a version lies at p: its kind, lengths, moment, key, end -/
def RecAt (c : Nat → Int8) (p : Nat) (k : List Nat) (m n : Nat) : Prop := (ub (c p) = 1 ∨ ub (c p) = 4) ∧ ub (c (p + 1)) = k.length ∧ beN 0 (sl c (p + 2) 2) = n ∧ beN 0 (sl c (p + 4) 4) = m ∧ sl c (p + 8) k.length = k ∧ ub (c (p + 8 + k.length + n)) = 90
/-- every value lies where it is said to, in one of the logs lg, the first lc -/
def RecsOk (c : Nat → Int8) (B : Nat) (lg : Nat → Nat) (lc : Nat) (vs : List aV) : Prop := ∀ v ∈ vs, ∀ n, v.2.2.2.1 = some n → RecAt c v.2.2.1 v.1 v.2.1 n ∧ (∃ j, j < lc ∧ lg j = v.2.2.1 / 2048) ∧ v.2.2.1 + 9 + v.1.length + n ≤ B * 2048 ∧ n ≤ 1000
/-- the value that a version has -/
def valV (c : Nat → Int8) (v : aV) : Option (List Nat) := v.2.2.2.1.map (fun n => sl c (v.2.2.1 + 8 + v.1.length) n)
/-- the version of the key that stands at the moment -/
def seenV (vs : List aV) (k : List Nat) (m : Nat) : Option aV := vs.find? (fun v => decide (v.1 = k) && stK (kmV vs) v.1 v.2.1 m)
def seenM (ms : List aMV) (k : List Nat) (m : Nat) : Option aMV := ms.find? (fun w => decide (w.1 = k) && stK (kmM ms) w.1 w.2.1 m)
theorem stK_uniq {L : List (List Nat × Nat)} {k : List Nat} {a b m : Nat} (ha : (k, a) ∈ L) (hb : (k, b) ∈ L) (h1 : stK L k a m = true) (h2 : stK L k b m = true) : a = b := by
  obtain ⟨p1, p2⟩ := stK_iff.mp h1
  obtain ⟨q1, q2⟩ := stK_iff.mp h2
  rcases Nat.lt_trichotomy a b with e | e | e
  · have := p2 b hb e; omega
  · exact e
  · have := q2 a ha e; omega
/-- no two of one key and moment -/
def OneV (vs : List aV) : Prop := ∀ u ∈ vs, ∀ v ∈ vs, u.1 = v.1 → u.2.1 = v.2.1 → u = v
def OneM (ms : List aMV) : Prop := ∀ u ∈ ms, ∀ v ∈ ms, u.1 = v.1 → u.2.1 = v.2.1 → u = v
theorem seenV_some {vs : List aV} {k : List Nat} {m : Nat} {v : aV} (h1 : OneV vs) : seenV vs k m = some v ↔ v ∈ vs ∧ v.1 = k ∧ stK (kmV vs) v.1 v.2.1 m = true := by
  constructor
  · intro h
    have h2 := List.find?_some h
    rw [Bool.and_eq_true, decide_eq_true_iff] at h2
    exact ⟨List.mem_of_find?_eq_some h, h2.1, h2.2⟩
  · rintro ⟨h2, h3, h4⟩
    cases hf : seenV vs k m with
    | none =>
      have := List.find?_eq_none.mp hf v h2
      rw [h3, decide_eq_true rfl, ← h3, h4] at this
      exact absurd rfl this
    | some u =>
      have h5 := List.find?_some hf
      rw [Bool.and_eq_true, decide_eq_true_iff] at h5
      have h6 := List.mem_of_find?_eq_some hf
      have h7 := h5.2
      rw [h5.1, ← h3] at h7
      congr 1
      refine h1 u h6 v h2 (h5.1.trans h3.symm) (stK_uniq (k := v.1) ?_ ?_ h7 h4)
      · exact mem_km.mpr ⟨u, h6, h5.1.trans h3.symm, rfl⟩
      · exact mem_km.mpr ⟨v, h2, rfl, rfl⟩
theorem seenV_none {vs : List aV} {k : List Nat} {m : Nat} : seenV vs k m = none ↔ ∀ v ∈ vs, v.1 = k → ¬ v.2.1 ≤ m := by
  constructor
  · intro h v hv hk hm
    -- the newest of those up to m stands
    have key : ∀ n, ∀ v ∈ vs, v.1 = k → v.2.1 ≤ m → m - v.2.1 ≤ n → ∃ u ∈ vs, u.1 = k ∧ stK (kmV vs) u.1 u.2.1 m = true := by
      intro n
      induction n with
      | zero =>
        intro v hv hk hm hn
        refine ⟨v, hv, hk, stK_iff.mpr ⟨hm, fun b _ hab => by omega⟩⟩
      | succ n ih =>
        intro v hv hk hm hn
        by_cases hb : ∃ u ∈ vs, u.1 = k ∧ v.2.1 < u.2.1 ∧ u.2.1 ≤ m
        · obtain ⟨u, h1, h2, h3, h4⟩ := hb
          exact ih u h1 h2 h4 (by omega)
        · refine ⟨v, hv, hk, stK_iff.mpr ⟨hm, fun b hb2 hab => ?_⟩⟩
          obtain ⟨u, h1, h2, h3⟩ := mem_km.mp hb2
          refine Nat.lt_of_not_le (fun hbm => hb ⟨u, h1, h2.trans hk, by omega, by omega⟩)
    obtain ⟨u, h1, h2, h3⟩ := key _ v hv hk hm (Nat.le_refl _)
    have := List.find?_eq_none.mp h u h1
    rw [h2, decide_eq_true rfl, ← h2, h3] at this
    exact this rfl
  · intro h
    refine List.find?_eq_none.mpr (fun v hv hc => ?_)
    rw [Bool.and_eq_true, decide_eq_true_iff] at hc
    exact h v hv hc.1 (stK_iff.mp hc.2).1
theorem seenM_some {ms : List aMV} {k : List Nat} {m : Nat} {v : aMV} (h1 : OneM ms) : seenM ms k m = some v ↔ v ∈ ms ∧ v.1 = k ∧ stK (kmM ms) v.1 v.2.1 m = true := by
  constructor
  · intro h
    have h2 := List.find?_some h
    rw [Bool.and_eq_true, decide_eq_true_iff] at h2
    exact ⟨List.mem_of_find?_eq_some h, h2.1, h2.2⟩
  · rintro ⟨h2, h3, h4⟩
    cases hf : seenM ms k m with
    | none =>
      have := List.find?_eq_none.mp hf v h2
      rw [h3, decide_eq_true rfl, ← h3, h4] at this
      exact absurd rfl this
    | some u =>
      have h5 := List.find?_some hf
      rw [Bool.and_eq_true, decide_eq_true_iff] at h5
      have h6 := List.mem_of_find?_eq_some hf
      have h7 := h5.2
      rw [h5.1, ← h3] at h7
      congr 1
      refine h1 u h6 v h2 (h5.1.trans h3.symm) (stK_uniq (k := v.1) ?_ ?_ h7 h4)
      · exact mem_km2.mpr ⟨u, h6, h5.1.trans h3.symm, rfl⟩
      · exact mem_km2.mpr ⟨v, h2, rfl, rfl⟩
theorem seenM_none {ms : List aMV} {k : List Nat} {m : Nat} : seenM ms k m = none ↔ ∀ v ∈ ms, v.1 = k → ¬ v.2.1 ≤ m := by
  constructor
  · intro h v hv hk hm
    have key : ∀ n, ∀ v ∈ ms, v.1 = k → v.2.1 ≤ m → m - v.2.1 ≤ n → ∃ u ∈ ms, u.1 = k ∧ stK (kmM ms) u.1 u.2.1 m = true := by
      intro n
      induction n with
      | zero =>
        intro v hv hk hm hn
        refine ⟨v, hv, hk, stK_iff.mpr ⟨hm, fun b _ hab => by omega⟩⟩
      | succ n ih =>
        intro v hv hk hm hn
        by_cases hb : ∃ u ∈ ms, u.1 = k ∧ v.2.1 < u.2.1 ∧ u.2.1 ≤ m
        · obtain ⟨u, h1, h2, h3, h4⟩ := hb
          exact ih u h1 h2 h4 (by omega)
        · refine ⟨v, hv, hk, stK_iff.mpr ⟨hm, fun b hb2 hab => ?_⟩⟩
          obtain ⟨u, h1, h2, h3⟩ := mem_km2.mp hb2
          refine Nat.lt_of_not_le (fun hbm => hb ⟨u, h1, h2.trans hk, by omega, by omega⟩)
    obtain ⟨u, h1, h2, h3⟩ := key _ v hv hk hm (Nat.le_refl _)
    have := List.find?_eq_none.mp h u h1
    rw [h2, decide_eq_true rfl, ← h2, h3] at this
    exact this rfl
  · intro h
    refine List.find?_eq_none.mpr (fun v hv hc => ?_)
    rw [Bool.and_eq_true, decide_eq_true_iff] at hc
    exact h v hv hc.1 (stK_iff.mp hc.2).1
/-- the value that a key has at a moment -/
def lookV (c : Nat → Int8) (vs : List aV) (k : List Nat) (m : Nat) : Option (List Nat) := (seenV vs (0 :: k) m).bind (valV c)
def lookM (ms : List aMV) (k : List Nat) (m : Nat) : Option (List Nat) := (seenM ms k m).bind (fun w => w.2.2)
theorem rel_oneM {op : Nat → Bool} {sm : Nat → Nat} {c : Nat → Int8} {vs : List aV} {ms : List aMV} (h : RelU op sm c vs ms) (h1 : OneV vs) : OneM ms := by
  obtain ⟨zb, hP, _⟩ := h
  intro u hu v hv e1 e2
  obtain ⟨x, hx, ex⟩ := List.mem_map.mp (hP.mem_iff.mpr hu)
  obtain ⟨y, hy, ey⟩ := List.mem_map.mp (hP.mem_iff.mpr hv)
  have hx2 := List.mem_filter.mp hx
  have hy2 := List.mem_filter.mp hy
  rw [Bool.and_eq_true] at hx2 hy2
  rw [← ex, ← ey] at e1 e2 ⊢
  have : x = y := by
    refine h1 x hx2.1 y hy2.1 ?_ e2
    rw [usV_cons hx2.2.1, usV_cons hy2.2.1]
    exact congrArg (List.cons 0) e1
  rw [this]
/-- a key has the same value in both, at a moment that somebody sees, or at the present one -/
theorem rel_look {op : Nat → Bool} {sm : Nat → Nat} {c : Nat → Int8} {vs : List aV} {ms : List aMV} (h : RelU op sm c vs ms) (h1 : OneV vs) {k : List Nat} {m : Nat} : lookV c vs k m = lookM ms k m := by
  have h2 := rel_oneM h h1
  obtain ⟨zb, hP, hz⟩ := h
  unfold lookV lookM
  cases hV : seenV vs (0 :: k) m with
  | none =>
    have hn := seenV_none.mp hV
    have : seenM ms k m = none := by
      refine seenM_none.mpr (fun w hw hk hm => ?_)
      obtain ⟨x, hx, ex⟩ := List.mem_map.mp (hP.mem_iff.mpr hw)
      have hx2 := List.mem_filter.mp hx
      rw [Bool.and_eq_true] at hx2
      refine hn x hx2.1 ?_ ?_
      · rw [usV_cons hx2.2.1, ← hk, ← ex]; rfl
      · rw [← ex] at hm; exact hm
    rw [this]
    rfl
  | some v =>
    obtain ⟨v1, v2, v3⟩ := (seenV_some h1).mp hV
    have hu : usV v = true := by
      unfold usV
      rw [v2]
      rfl
    by_cases hb : zb v = true
    · -- a version that the reference does not hold: taken out
      have hzz := hz v v1 hu hb
      have ho : v.2.2.2.1 = none := of_decide_eq_true hzz.1
      show valV c v = _
      unfold valV
      rw [ho]
      have : seenM ms k m = none := by
        refine seenM_none.mpr (fun w hw hk hm => ?_)
        obtain ⟨x, hx, ex⟩ := List.mem_map.mp (hP.mem_iff.mpr hw)
        have hx2 := List.mem_filter.mp hx
        rw [Bool.and_eq_true, Bool.not_eq_true'] at hx2
        have hxk : x.1 = v.1 := by
          rw [usV_cons hx2.2.1, v2, ← hk, ← ex]; rfl
        have hxm : x.2.1 ≤ m := by rw [← ex] at hm; exact hm
        have h4 := hzz.2.2 x hx2.1 hxk
        by_cases e : x.2.1 = v.2.1
        · have := h1 x hx2.1 v v1 hxk e
          rw [this, hb] at hx2
          cases hx2.2.2
        · have := (stK_iff.mp v3).2 x.2.1 (mem_km.mpr ⟨x, hx2.1, hxk, rfl⟩) (by omega)
          omega
      rw [this]
      rfl
    · have hb : zb v = false := by
        cases hc : zb v with
        | false => rfl
        | true => exact absurd hc hb
      have hm : toM c v ∈ ms := hP.mem_iff.mp (List.mem_map.mpr ⟨v, List.mem_filter.mpr ⟨v1, by rw [hu, hb]; rfl⟩, rfl⟩)
      have hst := rel_st hP hz v1 hu hb m
      have : seenM ms k m = some (toM c v) := by
        refine (seenM_some h2).mpr ⟨hm, ?_, ?_⟩
        · show v.1.tail = k
          rw [v2]; rfl
        · show stK (kmM ms) v.1.tail v.2.1 m = true
          rw [← hst]; exact v3
      rw [this]
      rfl
/-- a sorted list holds no two of one key and moment -/
theorem one_vsL {kf : Nat → Int8} {kl mo pl : Nat → Nat} {le : Nat → Option Nat} {al : Nat → Bool} {od : Nat → Nat} {sz : Nat} (hs : srt kf kl mo od sz) : OneV (vsL kf kl mo pl le al od sz) := by
  intro u hu v hv e1 e2
  obtain ⟨p, hp, ep⟩ := List.mem_map.mp hu
  obtain ⟨q, hq, eq⟩ := List.mem_map.mp hv
  have hp := List.mem_range.mp hp
  have hq := List.mem_range.mp hq
  rw [← ep, ← eq] at e1 e2 ⊢
  have : p = q := by
    rcases Nat.lt_trichotomy p q with e | e | e
    · rcases hs p q e hq with e3 | ⟨e3, e4⟩
      · have e1 : keyO kf kl od p = keyO kf kl od q := e1
        rw [e1] at e3
        exact absurd e3 cmpL_irr
      · have e2 : mo (od p) = mo (od q) := e2
        omega
    · exact e
    · rcases hs q p e hp with e3 | ⟨e3, e4⟩
      · have e1 : keyO kf kl od p = keyO kf kl od q := e1
        rw [e1] at e3
        exact absurd e3 cmpL_irr
      · have e2 : mo (od p) = mo (od q) := e2
        omega
  rw [this]
theorem VersIs.one {H : aH} {N : Nat} {vs : List aV} (h : VersIs H N vs) : OneV vs := by
  obtain ⟨kf, kl, mo, pl, le, al, od, sp, sz, ss, ac, h1, h2, rfl⟩ := h
  exact one_vsL h2.2.2.2.2.2.2.2.2
theorem VersIs.far {H H' : aH} {N : Nat} {vs : List aV} (h : VersIs H N vs) (hs : ∀ a, 74 ≤ a → a < 83 → H'[a]? = H[a]?) : VersIs H' N vs := by
  obtain ⟨kf, kl, mo, pl, le, al, od, sp, sz, ss, ac, h1, h2, h3⟩ := h
  refine ⟨kf, kl, mo, pl, le, al, od, sp, sz, ss, ac, ⟨?_, ?_, ?_, ?_, ?_, ?_, ?_, ?_, ?_⟩, h2, h3⟩
  · exact (hs 74 (by omega) (by omega)).trans h1.1
  · exact (hs 75 (by omega) (by omega)).trans h1.2.1
  · exact (hs 76 (by omega) (by omega)).trans h1.2.2.1
  · exact (hs 77 (by omega) (by omega)).trans h1.2.2.2.1
  · exact (hs 78 (by omega) (by omega)).trans h1.2.2.2.2.1
  · exact (hs 79 (by omega) (by omega)).trans h1.2.2.2.2.2.1
  · exact (hs 80 (by omega) (by omega)).trans h1.2.2.2.2.2.2.1
  · exact (hs 81 (by omega) (by omega)).trans h1.2.2.2.2.2.2.2.1
  · exact (hs 82 (by omega) (by omega)).trans h1.2.2.2.2.2.2.2.2
/-- the place that a search for a key at a moment finds -/
theorem cut_seen {kf : Nat → Int8} {kl mo pl : Nat → Nat} {le : Nat → Option Nat} {al : Nat → Bool} {od : Nat → Nat} {sz k m : Nat} {key : List Nat} {x : Int32} (hs : srt kf kl mo od sz) (hx : ∀ q, q < sz → (x < nI (mo (od q)) ↔ m < mo (od q))) (hc : cutAt kf kl mo od sz key x k) : seenV (vsL kf kl mo pl le al od sz) key m = if k < sz ∧ keyO kf kl od k = key then some (verO kf kl mo pl le al (od k)) else none := by
  obtain ⟨c1, c2, c3⟩ := hc
  by_cases h : k < sz ∧ keyO kf kl od k = key
  · rw [if_pos h]
    refine (seenV_some (one_vsL hs)).mpr ⟨List.mem_map.mpr ⟨k, List.mem_range.mpr h.1, rfl⟩, h.2, stK_iff.mpr ⟨?_, fun b hb hab => ?_⟩⟩
    · have h1 := c3 k (Nat.le_refl k) h.1
      refine Nat.le_of_not_lt (fun hlt => h1 (Or.inr ⟨?_, (hx k h.1).mpr hlt⟩))
      exact cmpL_eq.mpr h.2
    · obtain ⟨q, hq, hk, e⟩ := mem_kmV.mp hb
      have hqk := srt_mo hs hq h.1 hk (by rw [e]; exact hab)
      rcases c2 q hqk with h2 | ⟨h2, h3⟩
      · have hk : sl kf (od q * 41) (kl (od q)) = sl kf (od k * 41) (kl (od k)) := hk
        have h4 : sl kf (od k * 41) (kl (od k)) = key := h.2
        rw [hk, h4] at h2
        exact absurd h2 cmpL_irr
      · rw [← e]
        exact (hx q hq).mp h3
  · rw [if_neg h]
    refine seenV_none.mpr (fun v hv hk hm => h ?_)
    obtain ⟨q, hq, eq⟩ := List.mem_map.mp hv
    have hq := List.mem_range.mp hq
    rw [← eq] at hk hm
    have hk : keyO kf kl od q = key := hk
    have hm : mo (od q) ≤ m := hm
    have hnb : ¬ bef kf kl mo od key x q := by
      rintro (e | ⟨_, e⟩)
      · have hk : sl kf (od q * 41) (kl (od q)) = key := hk
        rw [hk] at e
        exact cmpL_irr e
      · have := (hx q hq).mp e
        omega
    have hkq : k ≤ q := Nat.le_of_not_lt (fun e => hnb (c2 q e))
    refine ⟨by omega, ?_⟩
    by_cases e : k = q
    · rw [e]; exact hk
    · rcases hs k q (by omega) hq with e2 | ⟨e2, _⟩
      · rw [hk] at e2
        exact absurd (Or.inl e2) (c3 k (Nat.le_refl k) (by omega))
      · rw [e2]; exact hk
