/-! ===== what a store that is up tells the calls that look; class; by hand ===== -/
theorem recs_ok {ky : List (List Nat)} {c : Nat → Int8} {B P : Nat} {lg : Nat → Nat} {lgs : List Nat} {wr : Bool} {tp : Nat} {rs : List aR} {vs : List aV} (hlg : ∀ i b, lgs[i]? = some b → lg i = b) (hO : LsOk B lgs rs) (hR : ∀ v ∈ vs, RecX c lgs wr tp v) (hK : ∀ v ∈ vs, VOk ky P v) (hP : P < 2 ^ 30) : RecsOk c B lg lgs.length vs := fun v hv n hn => by
  obtain ⟨a1, a2, a3⟩ := hK v hv
  have hw := a2.w
  have hl := a2.len
  rw [hn] at hl
  have hl : n ≤ 1000 := hl
  obtain ⟨r1, r2, r3⟩ := (hR v hv).1 n hn
  have hB := (hO.1 _ r3).2
  refine ⟨(hR v hv).1.at hn hw.2.1 (by omega), ?_, by omega, hl⟩
  obtain ⟨j, hj⟩ := List.getElem?_of_mem r3
  exact ⟨j, get_lt hj, hlg j _ hj⟩
theorem nd_count {l : List Nat} (h : l.Nodup) (b : Nat) : l.count b ≤ 1 := by
  induction l with
  | nil => exact Nat.zero_le _
  | cons a t ih =>
    obtain ⟨h1, h2⟩ := List.nodup_cons.mp h
    rw [List.count_cons]
    by_cases e : a = b
    · rw [if_pos (by rw [e]; exact beq_self_eq_true b)]
      have : t.count b = 0 := List.count_eq_zero.mpr (by rw [← e]; exact h1)
      omega
    · rw [if_neg (fun q => e (beq_iff_eq.mp q))]
      exact ih h2
theorem sum_count {rs : List aR} {b : Nat} : (rs.map (fun x => x.2.2.2.count b)).sum = (rs.flatMap (fun x => x.2.2.2)).count b := by
  induction rs with
  | nil => rfl
  | cons x t ih => rw [List.map_cons, List.sum_cons, List.flatMap_cons, List.count_append, ih]
theorem uses_one {B : Nat} {lgs : List Nat} {rs : List aR} {us : Nat → Bool} (hO : LsOk B lgs rs) (hU : ∀ b, b < B → us b = usedB lgs rs b) : ∀ b, b < B → usesL lgs rs b ≤ 1 ∧ us b = decide (0 < usesL lgs rs b) := fun b hb => by
  have hc := nd_count hO.2.2 b
  rw [List.count_append] at hc
  have he : usesL lgs rs b = (if b < 2 then 1 else 0) + lgs.count b + (rs.flatMap (fun x => x.2.2.2)).count b := by
    unfold usesL
    rw [sum_count]
  have h2 : b < 2 → lgs.count b = 0 ∧ (rs.flatMap (fun x => x.2.2.2)).count b = 0 := fun e => by
    refine ⟨List.count_eq_zero.mpr (fun q => by have := (hO.1 b q).1; omega), List.count_eq_zero.mpr (fun q => ?_)⟩
    obtain ⟨x, hx, hxb⟩ := List.mem_flatMap.mp q
    have := ((hO.2.1 x hx).2.2.2 b hxb).1
    omega
  refine ⟨?_, ?_⟩
  · rw [he]
    by_cases e : b < 2
    · have := h2 e
      rw [if_pos e]
      omega
    · rw [if_neg e]
      omega
  · rw [hU b hb]
    cases hu : usedB lgs rs b with
    | false => rw [usesL_0 hu]; rfl
    | true =>
      refine (decide_eq_true ?_).symm
      rw [he]
      rcases usedB_iff.mp hu with q | q | ⟨x, hx, q⟩
      · rw [if_pos q]; omega
      · have := List.count_pos_iff.mpr q
        omega
      · have := List.count_pos_iff.mpr (List.mem_flatMap.mpr ⟨x, hx, q⟩ : b ∈ rs.flatMap (fun x => x.2.2.2))
        omega
theorem fstF_uni {P : Nat → Bool} : ∀ {n v j : Nat}, v ≤ j → j < v + n → P j = true → (∀ i, v ≤ i → i < v + n → P i = true → i = j) → fstF P v n = some j
  | 0, v, j, h1, h2, _, _ => by omega
  | n + 1, v, j, h1, h2, h3, h4 => by
    rw [fstF]
    by_cases e : P v = true
    · rw [if_pos e, h4 v (Nat.le_refl _) (by omega) e]
    · rw [if_neg e]
      have hne : ¬ v = j := fun q => e (by rw [q]; exact h3)
      exact fstF_uni (by omega) (by omega) h3 (fun i a b => h4 i (by omega) (by omega))
theorem nd_get {l : List Nat} (h : l.Nodup) {i j x : Nat} (hi : l[i]? = some x) (hj : l[j]? = some x) : i = j := by
  have h1 := get_lt hi
  have h2 := get_lt hj
  rw [List.getElem?_eq_getElem h1] at hi
  rw [List.getElem?_eq_getElem h2] at hj
  have e : l[i] = l[j] := (Option.some.inj hi).trans (Option.some.inj hj).symm
  rcases Nat.lt_trichotomy i j with q | q | q
  · exact absurd e ((List.pairwise_iff_getElem.mp h) i j h1 h2 q)
  · exact q
  · exact absurd e.symm ((List.pairwise_iff_getElem.mp h) j i h2 h1 q)
/-- what memory alone knows lies where a replay meets it -/
theorem fresh_ok {ky : List (List Nat)} {c : Nat → Int8} {B P P1 : Nat} {lg : Nat → Nat} {lgs : List Nat} {fr ff : Nat} {rs : List aR} {gs : List aSg} {vs : List aV} {tss : List (List aT)} {L : List aCh} (hlg : ∀ i b, lgs[i]? = some b → lg i = b) (hO : LsOk B lgs rs) (hF : FrC c lgs fr ff gs) (hW : StW ky B P P1 rs gs c vs tss L) {v : aV} (hv : v ∈ vs) (hb : v.2.2.2.2 = true) : freshF lg lgs.length fr ff v.2.2.1 = true := by
  have hin := hW.2.2.2.1.2.2.2.2 v hv hb
  obtain ⟨x, hx, hvx⟩ := List.mem_flatMap.mp hin
  obtain ⟨i, e, hi, ev⟩ := mem_verB.mp hvx
  rw [Nat.zero_add] at ev
  have hrec : (v.2.2.1, recE x.1 e) ∈ gs.flatMap flG := by
    rw [hW.2.2.2.2.1]
    refine List.mem_flatMap.mpr ⟨x, hx, List.mem_append.mpr (Or.inl ?_)⟩
    have := adB_mem (m := x.1) (Q := x.2.1) (j := 0) hi
    rw [Nat.zero_add] at this
    rw [ev]
    exact this
  obtain ⟨-, -, -, -, -, s, hs, s1, -, s3⟩ := fr_mem hF hO hrec
  have s1 : s.1 = v.2.2.1 / 2048 := s1
  have s3 : s.2.1 ≤ v.2.2.1 % 2048 := s3
  obtain ⟨k, hk⟩ := List.getElem?_of_mem hs
  have hkl := get_lt hk
  obtain ⟨f1, f2, f3, f4, -⟩ := hF
  have hlk : lgs[lgs.length - fr + k]? = some (v.2.2.1 / 2048) := by
    have : (gs.map (fun s => s.1))[k]? = some s.1 := by rw [List.getElem?_map, hk]; rfl
    rw [f3, List.getElem?_drop] at this
    rw [this, s1]
  have hj := get_lt hlk
  have hfs : fstF (fun j => decide (lg j = v.2.2.1 / 2048)) 0 lgs.length = some (lgs.length - fr + k) := by
    refine fstF_uni (Nat.zero_le _) (by omega) (decide_eq_true (hlg _ _ hlk)) (fun i _ h2 h3 => ?_)
    have h3 := of_decide_eq_true h3
    obtain ⟨b, hb⟩ := lt_get (l := lgs) (i := i) (by omega)
    have hbe : b = v.2.2.1 / 2048 := by rw [← hlg i b hb]; exact h3
    rw [hbe] at hb
    exact nd_get hO.logs hb hlk
  unfold freshF
  rw [hfs]
  show (decide (lgs.length - fr < lgs.length - fr + k) || (decide (lgs.length - fr + k = lgs.length - fr) && decide (ff ≤ v.2.2.1 % 2048))) = true
  by_cases hk0 : k = 0
  · have := f4 k s hk
    rw [if_pos hk0] at this
    rw [Bool.or_eq_true, Bool.and_eq_true]
    right
    exact ⟨decide_eq_true (by omega), decide_eq_true (by omega)⟩
  · rw [Bool.or_eq_true]
    left
    exact decide_eq_true (by omega)
theorem cov_ok {ky : List (List Nat)} {B P P1 : Nat} {rs : List aR} {gs : List aSg} {c : Nat → Int8} {vs : List aV} {tss : List (List aT)} {L : List aCh} (hW : StW ky B P P1 rs gs c vs tss L) (h1 : OneV vs) : ∀ v ∈ vs, v.2.2.2.2 = false → ∃ es ∈ tss, ∃ e ∈ es, tellsV vs e = true ∧ v.1 = e.1 ∧ v.2.1 = e.2.1 := fun v hv hb => by
  have hf := (hW.2.2.1.1 v hv hb).mem
  obtain ⟨es, hes, he⟩ := List.mem_flatten.mp hf
  exact ⟨es, hes, entV v, he, tells_ent h1 hv hb, rfl, rfl⟩
