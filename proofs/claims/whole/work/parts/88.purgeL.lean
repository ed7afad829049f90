/-! ===== purge over lists; by hand ===== -/
def usV (v : aV) : Bool := decide (v.1.head? = some 0)
def ouV (v : aV) : Bool := decide (v.2.2.2.1 = none)
/-- what a purge keeps -/
def keepS (op : Nat → Bool) (sm : Nat → Nat) (pr : Nat) (L : List (List Nat × Nat)) (v : aV) : Bool := needS op sm (-1) pr L (usV v) (ouV v) v.1 v.2.1 || (stK L v.1 v.2.1 pr && v.2.2.2.2 && ouV v)
/-- the versions' arrays are well formed -/
def VersWf (N : Nat) (kf : Nat → Int8) (kl mo pl : Nat → Nat) (le : Nat → Option Nat) (al : Nat → Bool) (od sp : Nat → Nat) (sz ss ac : Nat) : Prop := VersOk N kl mo pl le od sp sz ss ∧ (∀ p q, p < sz → q < sz → od p = od q → p = q) ∧ ss + sz = N ∧ (∀ i p, i < ss → p < sz → ¬ sp i = od p) ∧ (∀ i j, i < ss → j < ss → sp i = sp j → i = j) ∧ (∀ i, i < ss → al (sp i) = false) ∧ ac = cntB (fun j => al (od j)) sz ∧ (∀ p, p < sz → 1 ≤ kl (od p)) ∧ srt kf kl mo od sz
def VersIs (H : aH) (N : Nat) (vs : List aV) : Prop := ∃ kf kl mo pl le al od sp sz ss ac, VersAt H N kf kl mo pl le al od sp sz ss ac ∧ VersWf N kf kl mo pl le al od sp sz ss ac ∧ vs = vsL kf kl mo pl le al od sz
theorem vsL_get {kf : Nat → Int8} {kl mo pl : Nat → Nat} {le : Nat → Option Nat} {al : Nat → Bool} {od : Nat → Nat} {sz p : Nat} (h : p < sz) : (vsL kf kl mo pl le al od sz)[p]? = some (verO kf kl mo pl le al (od p)) := by
  unfold vsL
  rw [List.getElem?_map, List.getElem?_range h]
  rfl
theorem vsL_len {kf : Nat → Int8} {kl mo pl : Nat → Nat} {le : Nat → Option Nat} {al : Nat → Bool} {od : Nat → Nat} {sz : Nat} : (vsL kf kl mo pl le al od sz).length = sz := by
  unfold vsL
  rw [List.length_map, List.length_range]
theorem usV_ver {kf : Nat → Int8} {kl mo pl : Nat → Nat} {le : Nat → Option Nat} {al : Nat → Bool} {s : Nat} (h : 1 ≤ kl s) : usV (verO kf kl mo pl le al s) = decide (ub (kf (s * 41)) = 0) := by
  unfold usV verO
  cases hk : kl s with
  | zero => omega
  | succ n =>
    show decide (some (ub (kf (s * 41))) = some 0) = _
    rw [Bool.eq_iff_iff, decide_eq_true_iff, decide_eq_true_iff]
    exact ⟨fun e => Option.some.inj e, fun e => by rw [e]⟩
theorem odK_spec {kp : Nat → Bool} {od : Nat → Nat} : ∀ (p j : Nat), j < cntB kp p → ∃ q, q < p ∧ kp q = true ∧ odK kp od p j = od q ∧ cntB kp q = j
  | 0, j, h => absurd h (Nat.not_lt_zero j)
  | p + 1, j, h => by
    rw [cntB] at h
    rw [odK]
    by_cases hk : kp p = true
    · rw [if_pos hk] at h
      rw [if_pos hk]
      unfold va_up
      by_cases e : j = cntB kp p
      · rw [if_pos e]
        exact ⟨p, by omega, hk, rfl, e.symm⟩
      · rw [if_neg e]
        obtain ⟨q, h1, h2, h3, h4⟩ := odK_spec (kp := kp) (od := od) p j (by omega)
        exact ⟨q, by omega, h2, h3, h4⟩
    · rw [if_neg hk] at h
      rw [if_neg hk]
      obtain ⟨q, h1, h2, h3, h4⟩ := odK_spec (kp := kp) (od := od) p j (by omega)
      exact ⟨q, by omega, h2, h3, h4⟩
theorem odK_map {kp : Nat → Bool} {od : Nat → Nat} : ∀ (p : Nat), (List.range (cntB kp p)).map (odK kp od p) = ((List.range p).filter kp).map od
  | 0 => rfl
  | p + 1 => by
    rw [List.range_succ, List.filter_append, List.map_append, ← odK_map p, cntB, odK]
    by_cases hk : kp p = true
    · rw [if_pos hk, if_pos hk, List.range_succ, List.map_append]
      congr 1
      · refine List.map_congr_left (fun j hj => ?_)
        unfold va_up
        rw [if_neg (by have := List.mem_range.mp hj; omega)]
      · show [va_up (odK kp od p) (cntB kp p) (od p) (cntB kp p)] = _
        rw [up_at, List.filter_cons_of_pos hk]
        rfl
    · rw [if_neg hk, if_neg hk, List.filter_cons_of_neg hk]
      show _ = _ ++ []
      rw [List.append_nil]
      rfl
theorem spK_spec {kp : Nat → Bool} {od sp : Nat → Nat} {ss : Nat} : ∀ (p i : Nat), i < ss + (p - cntB kp p) → (i < ss ∧ spK kp od sp ss p i = sp i) ∨ ∃ q, q < p ∧ kp q = false ∧ spK kp od sp ss p i = od q ∧ ss + (q - cntB kp q) = i
  | 0, i, h => Or.inl ⟨by rw [cntB] at h; omega, rfl⟩
  | p + 1, i, h => by
    have hc := cntB_le kp p
    rw [cntB] at h
    rw [spK]
    by_cases hk : kp p = true
    · rw [if_pos hk] at h
      rw [if_pos hk]
      rcases spK_spec (kp := kp) (od := od) (sp := sp) (ss := ss) p i (by omega) with h1 | ⟨q, h1, h2, h3, h4⟩
      · exact Or.inl h1
      · exact Or.inr ⟨q, by omega, h2, h3, h4⟩
    · rw [if_neg hk] at h
      rw [if_neg hk]
      unfold va_up
      by_cases e : i = ss + (p - cntB kp p)
      · rw [if_pos e]
        exact Or.inr ⟨p, by omega, Bool.eq_false_iff.mpr hk, rfl, e.symm⟩
      · rw [if_neg e]
        rcases spK_spec (kp := kp) (od := od) (sp := sp) (ss := ss) p i (by omega) with h1 | ⟨q, h1, h2, h3, h4⟩
        · exact Or.inl h1
        · exact Or.inr ⟨q, by omega, h2, h3, h4⟩
theorem alK_kept {kp : Nat → Bool} {od : Nat → Nat} {al : Nat → Bool} {s : Nat} : ∀ (p : Nat), (∀ q, q < p → kp q = false → ¬ od q = s) → alK kp od al p s = al s
  | 0, _ => rfl
  | p + 1, h => by
    rw [alK]
    by_cases hk : kp p = true
    · rw [if_pos hk]
      exact alK_kept p (fun q hq => h q (by omega))
    · rw [if_neg hk]
      unfold va_up
      rw [if_neg (fun e => h p (by omega) (Bool.eq_false_iff.mpr hk) e.symm)]
      exact alK_kept p (fun q hq => h q (by omega))
theorem alK_false {kp : Nat → Bool} {od : Nat → Nat} {al : Nat → Bool} {s : Nat} (h : al s = false) : ∀ (p : Nat), alK kp od al p s = false
  | 0 => h
  | p + 1 => by
    rw [alK]
    split
    · exact alK_false h p
    · unfold va_up
      split
      · rfl
      · exact alK_false h p
theorem alK_rel {kp : Nat → Bool} {od : Nat → Nat} {al : Nat → Bool} : ∀ (p q : Nat), q < p → kp q = false → alK kp od al p (od q) = false
  | 0, q, h, _ => absurd h (Nat.not_lt_zero q)
  | p + 1, q, h, hk => by
    rw [alK]
    by_cases e : q = p
    · rw [e] at hk
      rw [if_neg (by rw [hk]; decide), e]
      exact if_pos rfl
    · split
      · exact alK_rel p q (by omega) hk
      · unfold va_up
        split
        · rfl
        · exact alK_rel p q (by omega) hk
theorem cntB_congr {f g : Nat → Bool} : ∀ (n : Nat), (∀ i, i < n → f i = g i) → cntB f n = cntB g n
  | 0, _ => rfl
  | n + 1, h => by rw [cntB, cntB, cntB_congr n (fun i hi => h i (by omega)), h n (by omega)]
theorem acK_sum {kp : Nat → Bool} {od : Nat → Nat} {al : Nat → Bool} {ac : Nat} : ∀ (p : Nat), cntB (fun j => al (od j)) p ≤ ac → acK kp od al ac p + cntB (fun j => al (od j)) p = ac + cntB (fun j => al (odK kp od p j)) (cntB kp p)
  | 0, _ => rfl
  | p + 1, h => by
    have hc : cntB (fun j => al (od j)) (p + 1) = cntB (fun j => al (od j)) p + (if al (od p) = true then 1 else 0) := rfl
    have ih := acK_sum (kp := kp) (od := od) (al := al) (ac := ac) p (by rw [hc] at h; omega)
    rw [hc] at h
    rw [hc, acK]
    have hk1 : cntB kp (p + 1) = cntB kp p + (if kp p = true then 1 else 0) := rfl
    rw [hk1, odK]
    by_cases hk : kp p = true
    · rw [if_pos hk, if_pos hk, if_pos hk]
      have e1 : cntB (fun j => al (va_up (odK kp od p) (cntB kp p) (od p) j)) (cntB kp p + 1) = cntB (fun j => al (odK kp od p j)) (cntB kp p) + (if al (od p) = true then 1 else 0) := by
        rw [cntB]
        rw [up_at]
        rw [cntB_congr (cntB kp p) (fun i hi => by show al (va_up _ _ _ i) = al (odK kp od p i); unfold va_up; rw [if_neg (by omega)])]
      rw [e1]
      omega
    · rw [if_neg hk, if_neg hk, if_neg hk]
      have ih2 := acK_ge (kp := kp) (od := od) (al := al) (ac := ac) p 1 (by rw [hc]; exact h)
      rw [hc] at ih2
      unfold acUp
      cases ha : al (od p) with
      | false => rw [if_pos rfl]; simp; exact ih
      | true =>
        rw [ha] at h ih2
        simp at h ih2 ⊢
        omega
theorem range_filter_map {α : Type} {f : Nat → α} {P : α → Bool} {kp : Nat → Bool} {n : Nat} (h : ∀ i, i < n → kp i = P (f i)) : ((List.range n).map f).filter P = ((List.range n).filter kp).map f := by
  rw [List.filter_map]
  congr 1
  refine List.filter_congr (fun i hi => ?_)
  exact (h i (List.mem_range.mp hi)).symm
theorem cnt_filter {kp : Nat → Bool} : ∀ (n : Nat), ((List.range n).filter kp).length = cntB kp n
  | 0 => rfl
  | n + 1 => by
    rw [List.range_succ, List.filter_append, List.length_append, cnt_filter n, cntB]
    by_cases hk : kp n = true
    · rw [if_pos hk, List.filter_cons_of_pos hk]; rfl
    · rw [if_neg hk, List.filter_cons_of_neg hk]; rfl
theorem kp_eq {kf : Nat → Int8} {kl mo pl : Nat → Nat} {le : Nat → Option Nat} {al : Nat → Bool} {od sp : Nat → Nat} {N sz ss ac p pr : Nat} {op : Nat → Bool} {sm : Nat → Nat} (hw : VersWf N kf kl mo pl le al od sp sz ss ac) (hp : p < sz) (hpr : ∀ q, q < sz → mo (od q) ≤ pr) : kpB op sm kf kl mo le al od p = keepS op sm pr (kmV (vsL kf kl mo pl le al od sz)) (verO kf kl mo pl le al (od p)) := by
  have hs := hw.2.2.2.2.2.2.2.2
  unfold kpB keepS
  rw [nd_eq (pl := pl) (al := al) hs hp hpr, usV_ver (hw.2.2.2.2.2.2.2.1 p hp)]
  have hst : stK (kmV (vsL kf kl mo pl le al od sz)) (keyO kf kl od p) (mo (od p)) pr = nwB kf kl od p := by
    rw [Bool.eq_iff_iff, stK_iff, nw_iff hs hp]
    constructor
    · rintro ⟨_, h2⟩ q hq hk hm
      have := h2 (mo (od q)) (mem_kmV.mpr ⟨q, hq, hk, rfl⟩) hm
      have := hpr q hq
      omega
    · intro h
      refine ⟨hpr p hp, fun b hb hab => ?_⟩
      obtain ⟨q, hq, hk, e⟩ := mem_kmV.mp hb
      rw [← e] at hab
      exact absurd hab (h q hq hk)
  rw [← hst]
  rfl
/-- purge, as it is told of lists -/
theorem purge_wf {kf : Nat → Int8} {kl mo pl : Nat → Nat} {le : Nat → Option Nat} {al : Nat → Bool} {od sp : Nat → Nat} {N sz ss ac : Nat} {kp : Nat → Bool} (hw : VersWf N kf kl mo pl le al od sp sz ss ac) : VersWf N kf kl mo pl le (alK kp od al sz) (odK kp od sz) (spK kp od sp ss sz) (cntB kp sz) (ss + (sz - cntB kp sz)) (acK kp od al ac sz) := by
  obtain ⟨hk, hinj, hN, h4, h5, h6, h7, h8, hs⟩ := hw
  have hc := cntB_le kp sz
  have hal : ∀ j, j < cntB kp sz → alK kp od al sz (odK kp od sz j) = al (odK kp od sz j) := by
    intro j hj
    obtain ⟨q, q1, q2, q3, q4⟩ := odK_spec (kp := kp) (od := od) sz j hj
    rw [q3]
    refine alK_kept sz (fun r hr hk2 e => ?_)
    rw [hinj r q hr q1 e] at hk2
    rw [q2] at hk2
    cases hk2
  refine ⟨⟨hk.1, by have := hk.2.1; omega, by omega, fun p hp => odK_lt hk.2.2.2.1 sz p (Nat.le_refl _) (by omega), fun i hi => spK_lt hk.2.2.2.1 hk.2.2.2.2.1 sz i (Nat.le_refl _) hi, hk.2.2.2.2.2⟩, ?_, by omega, ?_, ?_, ?_, ?_, ?_, ?_⟩
  · intro p q hp hq e
    obtain ⟨r, r1, r2, r3, r4⟩ := odK_spec (kp := kp) (od := od) sz p hp
    obtain ⟨u, u1, u2, u3, u4⟩ := odK_spec (kp := kp) (od := od) sz q hq
    rw [r3, u3] at e
    have e2 := hinj r u r1 u1 e
    rw [e2] at r4
    omega
  · intro i p hi hp e
    obtain ⟨r, r1, r2, r3, r4⟩ := odK_spec (kp := kp) (od := od) sz p hp
    rw [r3] at e
    rcases spK_spec (kp := kp) (od := od) (sp := sp) sz i hi with ⟨h1, h2⟩ | ⟨q, q1, q2, q3, q4⟩
    · rw [h2] at e
      exact h4 i r h1 r1 e
    · rw [q3] at e
      rw [hinj q r q1 r1 e, r2] at q2
      cases q2
  · intro i j hi hj e
    rcases spK_spec (kp := kp) (od := od) (sp := sp) sz i hi with ⟨h1, h2⟩ | ⟨q, q1, q2, q3, q4⟩
    · rw [h2] at e
      rcases spK_spec (kp := kp) (od := od) (sp := sp) sz j hj with ⟨h1', h2'⟩ | ⟨r, r1, r2, r3, r4⟩
      · rw [h2'] at e
        exact h5 i j h1 h1' e
      · rw [r3] at e
        exact absurd e (h4 i r h1 r1)
    · rw [q3] at e
      rcases spK_spec (kp := kp) (od := od) (sp := sp) sz j hj with ⟨h1', h2'⟩ | ⟨r, r1, r2, r3, r4⟩
      · rw [h2'] at e
        exact absurd e.symm (h4 j q h1' q1)
      · rw [r3] at e
        rw [hinj q r q1 r1 e] at q4
        omega
  · intro i hi
    rcases spK_spec (kp := kp) (od := od) (sp := sp) sz i hi with ⟨h1, h2⟩ | ⟨q, q1, q2, q3, q4⟩
    · rw [h2]
      exact alK_false (h6 i h1) sz
    · rw [q3]
      exact alK_rel sz q q1 q2
  · have h9 := acK_sum (kp := kp) (od := od) (al := al) (ac := ac) sz (by omega)
    rw [cntB_congr (cntB kp sz) hal]
    omega
  · intro p hp
    obtain ⟨r, r1, r2, r3, r4⟩ := odK_spec (kp := kp) (od := od) sz p hp
    rw [r3]
    exact h8 r r1
  · intro p q hpq hq
    obtain ⟨r, r1, r2, r3, r4⟩ := odK_spec (kp := kp) (od := od) sz p (by omega)
    obtain ⟨u, u1, u2, u3, u4⟩ := odK_spec (kp := kp) (od := od) sz q hq
    have hru : r < u := by
      rcases Nat.lt_or_ge r u with e | e
      · exact e
      · have := cntB_mono kp u r e
        omega
    unfold keyO
    rw [r3, u3]
    exact hs r u hru u1
theorem purge_vs {kf : Nat → Int8} {kl mo pl : Nat → Nat} {le : Nat → Option Nat} {al : Nat → Bool} {od sp : Nat → Nat} {N sz ss ac : Nat} {kp : Nat → Bool} {P : aV → Bool} (hw : VersWf N kf kl mo pl le al od sp sz ss ac) (hP : ∀ p, p < sz → kp p = P (verO kf kl mo pl le al (od p))) : vsL kf kl mo pl le (alK kp od al sz) (odK kp od sz) (cntB kp sz) = (vsL kf kl mo pl le al od sz).filter P := by
  obtain ⟨hk, hinj, hN, h4, h5, h6, h7, h8, hs⟩ := hw
  unfold vsL
  rw [range_filter_map hP]
  rw [show (fun p => verO kf kl mo pl le (alK kp od al sz) (odK kp od sz p)) = (verO kf kl mo pl le (alK kp od al sz)) ∘ (odK kp od sz) from rfl, ← List.map_map, odK_map, List.map_map]
  refine List.map_congr_left (fun p hp => ?_)
  have hp := List.mem_filter.mp hp
  have hp1 := List.mem_range.mp hp.1
  show verO kf kl mo pl le (alK kp od al sz) (od p) = verO kf kl mo pl le al (od p)
  unfold verO
  rw [alK_kept sz (fun r hr hk2 e => by rw [hinj r p hr hp1 e, hp.2] at hk2; cases hk2)]
theorem rn_purgeL {sc : Nat × (Nat → Int32)} {d N pr : Nat} {H : aH} {vs : List aV} {op : Nat → Bool} {sm : Nat → Nat} (g : SightAt H op sm) (hsm : ∀ t, t < 8 → sm t < 2 ^ 31) (h : VersIs H N vs) (hpr : ∀ v ∈ vs, v.2.1 ≤ pr) : RN sc (d + 2) mr_80 [.ref 75] H (fun H' => VersIs H' N (vs.filter (keepS op sm pr (kmV vs))) ∧ ∀ a, ¬ (74 ≤ a ∧ a < 83) → H'[a]? = H[a]?) := by
  obtain ⟨kf, kl, mo, pl, le, al, od, sp, sz, ss, ac, h1, hw, hv⟩ := h
  obtain ⟨H', r, h2, h3⟩ := rn_purge (sc := sc) (d := d) g hsm h1 hw.1 hw.2.1 (by have := hw.2.2.1; omega) (by rw [hw.2.2.2.2.2.2.1]; exact Nat.le_refl _)
  refine ⟨H', r, ⟨kf, kl, mo, pl, le, _, _, _, _, _, _, h2, purge_wf hw, ?_⟩, h3⟩
  rw [hv]
  refine (purge_vs hw (fun p hp => kp_eq hw hp (fun q hq => ?_))).symm
  have hm := hpr (verO kf kl mo pl le al (od q)) (by rw [hv]; exact List.mem_of_getElem? (vsL_get hq))
  exact hm
