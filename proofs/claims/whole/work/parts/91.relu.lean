/-! ===== prune over lists; the relation of the users' versions; by hand ===== -/
/-- the reference's versions, its two rows of bytes, its row of weights -/
def MVIs (H : aH) (ba bo us : Nat) (ms : List aMV) : Prop := (∃ bf ko kn vo vz vm, MVAt H ba bf ko kn vo vz vm ∧ MVLay bf ko kn vo vz vm ms) ∧ us = eOff (ms.map eMV) ms.length ∧ (∃ ob, H[bo]? = some (kB 48000 ob)) ∧ (∃ w0, H[223]? = some (kI 1500 w0)) ∧ ba ≠ bo ∧ (ba = 203 ∨ ba = 204) ∧ (bo = 203 ∨ bo = 204)
theorem eOff_filter {P : aMV → Bool} : ∀ (ms : List aMV), eOff ((ms.filter P).map eMV) (ms.filter P).length ≤ eOff (ms.map eMV) ms.length
  | [] => Nat.le_refl _
  | w :: t => by
    have ih := eOff_filter (P := P) t
    by_cases h : P w = true
    · rw [List.filter_cons_of_pos h]
      show eLen (eMV w) + eOff ((t.filter P).map eMV) (t.filter P).length ≤ eLen (eMV w) + eOff (t.map eMV) t.length
      omega
    · rw [List.filter_cons_of_neg h]
      show _ ≤ eLen (eMV w) + eOff (t.map eMV) t.length
      omega
theorem MSOk.filter {ms : List aMV} {P : aMV → Bool} (h : MSOk ms) : MSOk (ms.filter P) := by
  refine ⟨?_, ?_, fun w hw => h.2.2 w (List.mem_filter.mp hw).1⟩
  · have := List.length_filter_le P ms
    have := h.1
    omega
  · have := eOff_filter (P := P) ms
    have := h.2.1
    omega
/-- what a prune keeps -/
def keepM (op : Nat → Bool) (se : Nat → Nat) (pr : Nat) (L : List (List Nat × Nat)) (w : aMV) : Bool := !(decide (wM op se (-1) pr L w = 0))
theorem rn_pruneL {sc : Nat × (Nat → Int32)} {d p us : Nat} {H : aH} {fa li dn cw cl tp rs pi hu : Int32} {ba bo : Nat} {ms : List aMV} {op : Nat → Bool} {se : Nat → Nat} (hm : H[195]? = some (kO 12 (mfs fa li dn cw cl tp rs (nI p) (nI ms.length) (nI us) pi hu ba bo))) (h : MVIs H ba bo us ms) (hk : MSOk ms) (h5 : H[205]? = some (kZ 8 op)) (h6 : H[206]? = some (kI 8 (fun j => nI (se j)))) (hse : ∀ t, t < 8 → se t < 2 ^ 31) (hp : p < 2 ^ 31) : RN sc (d + 3) mr_270 [.ref 196] H (fun H' => ∃ us', H'[195]? = some (kO 12 (mfs fa li dn cw cl tp rs (nI p) (nI (ms.filter (keepM op se p (kmM ms))).length) (nI us') pi hu bo ba)) ∧ MVIs H' bo ba us' (ms.filter (keepM op se p (kmM ms))) ∧ ∀ a, ¬ (a = 195 ∨ 198 ≤ a ∧ a ≤ 204 ∨ a = 223) → H'[a]? = H[a]?) := by
  obtain ⟨⟨bf, ko, kn, vo, vz, vm, h1, h2⟩, hus, ⟨ob, hob⟩, ⟨w0, hw0⟩, hbb, hba, hbo⟩ := h
  have hP : ∀ v w, ms[v]? = some w → kpV bf ko kn vz vm ms.length p op se v = keepM op se p (kmM ms) w := fun v w hv => by
    unfold kpV keepM
    rw [wV_m h2 hv]
  obtain ⟨q1, q2, q3⟩ := prune_step (ob := ob) h2 hP ms.length (Nat.le_refl _)
  rw [List.take_of_length_le (Nat.le_refl _)] at q1 q2 q3
  have hu2 := eOff_filter (P := keepM op se p (kmM ms)) ms
  have hu3 := hk.2.1
  obtain ⟨H', r, g1, g2, g3, g4, g5⟩ := rn_prune (sc := sc) (d := d) hm h1 (h2.ok hk) h5 h6 hse hob hw0 hbb hba hbo hp (by rw [q2]; omega) rfl
  refine ⟨H', r, usP (kpV bf ko kn vz vm ms.length p op se) kn vz ms.length, ?_, ⟨⟨_, _, _, _, _, _, g2, q1⟩, q2, ⟨_, g3⟩, ⟨_, g4⟩, hbb.symm, hbo, hba⟩, g5⟩
  rw [← q3]
  exact g1
/-- a version of the class as the reference has it; c: the chip's bytes -/
def toM (c : Nat → Int8) (v : aV) : aMV := (v.1.tail, v.2.1, v.2.2.2.1.map (fun n => sl c (v.2.2.1 + 8 + v.1.length) n))
/-- one that was taken out, that nobody sees the time before, and the oldest of its key: the class may hold it though the reference does not -/
def Zom (op : Nat → Bool) (sm : Nat → Nat) (vs : List aV) (z : aV) : Prop := ouV z = true ∧ opA op (-1) (fun t => decide (sm t < z.2.1)) 8 = false ∧ ∀ v ∈ vs, v.1 = z.1 → ¬ v.2.1 < z.2.1
def RelU (op : Nat → Bool) (sm : Nat → Nat) (c : Nat → Int8) (vs : List aV) (ms : List aMV) : Prop := ∃ zb : aV → Bool, ((vs.filter (fun v => usV v && !(zb v))).map (toM c)).Perm ms ∧ ∀ z ∈ vs, usV z = true → zb z = true → Zom op sm vs z
theorem usV_cons {v : aV} (h : usV v = true) : v.1 = 0 :: v.1.tail := by
  unfold usV at h
  have h := of_decide_eq_true h
  obtain ⟨k, r⟩ := v
  cases k with
  | nil => cases h
  | cons a t =>
    have e : a = 0 := Option.some.inj h
    rw [e]
    rfl
theorem mem_km {vs : List aV} {k : List Nat} {b : Nat} : (k, b) ∈ kmV vs ↔ ∃ v ∈ vs, v.1 = k ∧ v.2.1 = b := by
  unfold kmV
  rw [List.mem_map]
  exact ⟨fun ⟨v, hv, e⟩ => ⟨v, hv, (Prod.mk.inj e).1, (Prod.mk.inj e).2⟩, fun ⟨v, hv, e1, e2⟩ => ⟨v, hv, Prod.ext e1 e2⟩⟩
theorem mem_km2 {ms : List aMV} {k : List Nat} {b : Nat} : (k, b) ∈ kmM ms ↔ ∃ w ∈ ms, w.1 = k ∧ w.2.1 = b := by
  unfold kmM
  rw [List.mem_map]
  exact ⟨fun ⟨v, hv, e⟩ => ⟨v, hv, (Prod.mk.inj e).1, (Prod.mk.inj e).2⟩, fun ⟨v, hv, e1, e2⟩ => ⟨v, hv, Prod.ext e1 e2⟩⟩
/-- of a version that is none of those, both tell the same -/
theorem rel_st {op : Nat → Bool} {sm : Nat → Nat} {c : Nat → Int8} {vs : List aV} {ms : List aMV} {zb : aV → Bool} (hP : ((vs.filter (fun v => usV v && !(zb v))).map (toM c)).Perm ms) (hz : ∀ z ∈ vs, usV z = true → zb z = true → Zom op sm vs z) {v : aV} (hv : v ∈ vs) (hu : usV v = true) (hn : zb v = false) (m : Nat) : stK (kmV vs) v.1 v.2.1 m = stK (kmM ms) v.1.tail v.2.1 m := by
  rw [Bool.eq_iff_iff, stK_iff, stK_iff]
  refine and_congr_right (fun _ => ?_)
  constructor
  · intro h b hb hab
    obtain ⟨w, hw, e1, e2⟩ := mem_km2.mp hb
    obtain ⟨u, hu1, hu2⟩ := List.mem_map.mp (hP.mem_iff.mpr hw)
    have hu3 := List.mem_filter.mp hu1
    rw [Bool.and_eq_true] at hu3
    refine h b (mem_km.mpr ⟨u, hu3.1, ?_, ?_⟩) hab
    · rw [usV_cons hu3.2.1, usV_cons hu]
      congr 1
      rw [← e1, ← hu2]
      rfl
    · rw [← e2, ← hu2]
      rfl
  · intro h b hb hab
    obtain ⟨u, hu1, e1, e2⟩ := mem_km.mp hb
    have hu2 : usV u = true := by
      unfold usV
      rw [e1]
      exact hu
    have hu3 : zb u = false := by
      cases hc : zb u with
      | false => rfl
      | true => exact absurd (by rw [e2]; exact hab) ((hz u hu1 hu2 hc).2.2 v hv e1.symm)
    refine h b (mem_km2.mpr ⟨toM c u, hP.mem_iff.mp (List.mem_map.mpr ⟨u, List.mem_filter.mpr ⟨hu1, by rw [hu2, hu3]; rfl⟩, rfl⟩), ?_, e2⟩) hab
    show u.1.tail = _
    rw [e1]
theorem ouV_toM {c : Nat → Int8} {v : aV} : decide ((toM c v).2.2.map List.length = none) = ouV v := by
  unfold ouV toM
  obtain ⟨k, m, p, l, a⟩ := v
  cases l <;> rfl
theorem nI_neg {t : Nat} (h : t < 2 ^ 31) : ¬ nI t = -1 := fun e => absurd (show nI t < nI 0 by rw [e]; decide) (nI_nlt (Nat.zero_le t) (by omega))
theorem opA_sub {op : Nat → Bool} {x : Int32} {P : Nat → Bool} (h : opA op (-1) P 8 = false) : opA op x P 8 = false := by
  unfold opA at h ⊢
  rw [List.any_eq_false] at h ⊢
  intro t ht e
  rw [Bool.and_eq_true, Bool.and_eq_true] at e
  have e2 := nI_neg (t := t) (by have := List.mem_range.mp ht; omega)
  refine h t ht ?_
  rw [e.1.1, e.2, decide_eq_false e2]
  rfl
theorem opA_ex {op : Nat → Bool} {x : Int32} {P : Nat → Bool} {n : Nat} : opA op x P n = true ↔ ∃ t, t < n ∧ op t = true ∧ ¬ nI t = x ∧ P t = true := by
  unfold opA
  rw [List.any_eq_true]
  constructor
  · rintro ⟨t, ht, e⟩
    rw [Bool.and_eq_true, Bool.and_eq_true, Bool.not_eq_true', decide_eq_false_iff_not] at e
    exact ⟨t, List.mem_range.mp ht, e.1.1, e.1.2, e.2⟩
  · rintro ⟨t, ht, e1, e2, e3⟩
    refine ⟨t, List.mem_range.mpr ht, ?_⟩
    rw [e1, e3, decide_eq_false e2]
    rfl
/-- both weigh a version alike -/
theorem rel_wt {op : Nat → Bool} {sm : Nat → Nat} {c : Nat → Int8} {vs : List aV} {ms : List aMV} {zb : aV → Bool} (hP : ((vs.filter (fun v => usV v && !(zb v))).map (toM c)).Perm ms) (hz : ∀ z ∈ vs, usV z = true → zb z = true → Zom op sm vs z) {v : aV} (hv : v ∈ vs) (hu : usV v = true) (hn : zb v = false) (x : Int32) (pr : Nat) : (if needS op sm x pr (kmV vs) (usV v) (ouV v) v.1 v.2.1 then wgV v else 0) = wM op sm x pr (kmM ms) (toM c v) ∧ needS op sm x pr (kmV vs) (usV v) (ouV v) v.1 v.2.1 = !(decide (wM op sm x pr (kmM ms) (toM c v) = 0)) := by
  have h1 := rel_st hP hz hv hu hn
  unfold needS wM
  rw [hu, if_neg (show ¬ (true = false) from fun e => by cases e), h1, opA_congr (fun t _ _ => h1 (sm t))]
  have hlen : v.1.length = v.1.tail.length + 1 := by
    conv => lhs; rw [usV_cons hu]
    rfl
  have hhd : v.1.headD 0 = 0 := by rw [usV_cons hu]; rfl
  show (if ((!ouV v || opA op x (fun t => decide (sm t < v.2.1)) 8) && (stK (kmM ms) v.1.tail v.2.1 pr || opA op x (fun t => stK (kmM ms) v.1.tail v.2.1 (sm t)) 8)) = true then wgV v else 0) = mwg (stK (kmM ms) v.1.tail v.2.1 pr || opA op x (fun t => stK (kmM ms) v.1.tail v.2.1 (sm t)) 8) (opA op x (fun t => decide (sm t < v.2.1)) 8) v.1.tail.length ((toM c v).2.2.map List.length) ∧ ((!ouV v || opA op x (fun t => decide (sm t < v.2.1)) 8) && (stK (kmM ms) v.1.tail v.2.1 pr || opA op x (fun t => stK (kmM ms) v.1.tail v.2.1 (sm t)) 8)) = !(decide (mwg (stK (kmM ms) v.1.tail v.2.1 pr || opA op x (fun t => stK (kmM ms) v.1.tail v.2.1 (sm t)) 8) (opA op x (fun t => decide (sm t < v.2.1)) 8) v.1.tail.length ((toM c v).2.2.map List.length) = 0))
  generalize (stK (kmM ms) v.1.tail v.2.1 pr || opA op x (fun t => stK (kmM ms) v.1.tail v.2.1 (sm t)) 8) = st
  generalize opA op x (fun t => decide (sm t < v.2.1)) 8 = bf
  unfold wgV wgt mwg
  rw [hhd, hlen, if_pos rfl]
  have hl : (toM c v).2.2.map List.length = v.2.2.2.1 := by
    unfold toM
    obtain ⟨k, m, p, l, a⟩ := v
    cases l with
    | none => rfl
    | some n => show some (sl c (p + 8 + k.length) n).length = some n; rw [sl_length]
  rw [hl]
  unfold ouV
  cases st with
  | false =>
    rw [Bool.and_false]
    exact ⟨rfl, rfl⟩
  | true =>
    rw [Bool.and_true]
    cases hl2 : v.2.2.2.1 with
    | none =>
      cases bf with
      | false => exact ⟨rfl, rfl⟩
      | true =>
        refine ⟨?_, ?_⟩
        · show 24 + (v.1.tail.length + 1) - 1 + 0 = 24 + v.1.tail.length
          omega
        · show true = !(decide (24 + v.1.tail.length = 0))
          rw [decide_eq_false (by omega)]
          rfl
    | some n =>
      refine ⟨?_, ?_⟩
      · show 24 + (v.1.tail.length + 1) - 1 + n = 24 + v.1.tail.length + n
        omega
      · show true = !(decide (24 + v.1.tail.length + n = 0))
        rw [decide_eq_false (by omega)]
        rfl
theorem zom_need {op : Nat → Bool} {sm : Nat → Nat} {vs : List aV} {z : aV} (hu : usV z = true) (h : Zom op sm vs z) (x : Int32) (pr : Nat) (L : List (List Nat × Nat)) : needS op sm x pr L (usV z) (ouV z) z.1 z.2.1 = false := by
  unfold needS
  rw [hu, if_neg (show ¬ (true = false) from fun e => by cases e), h.1, opA_sub h.2.1]
  rfl
theorem perm_sum {a b : List Nat} (h : a.Perm b) : a.sum = b.sum := by
  induction h with
  | nil => rfl
  | cons x _ ih => rw [List.sum_cons, List.sum_cons, ih]
  | swap x y l => rw [List.sum_cons, List.sum_cons, List.sum_cons, List.sum_cons]; omega
  | trans _ _ h1 h2 => exact h1.trans h2
theorem sum_split {f : aV → Nat} {zb : aV → Bool} : ∀ (vs : List aV), (∀ z ∈ vs, usV z = true → zb z = true → f z = 0) → (vs.map f).sum = ((vs.filter (fun v => usV v && !(zb v))).map f).sum + ((vs.filter (fun v => !(usV v))).map f).sum
  | [], _ => rfl
  | v :: t, h => by
    have ih := sum_split (f := f) (zb := zb) t (fun z hz => h z (List.mem_cons_of_mem _ hz))
    rw [List.map_cons, List.sum_cons, ih]
    cases hu : usV v with
    | false =>
      rw [List.filter_cons_of_neg (by rw [hu, Bool.false_and]; exact Bool.false_ne_true), List.filter_cons_of_pos (a := v) (l := t) (p := fun v => !(usV v)) (by rw [hu]; rfl), List.map_cons, List.sum_cons]
      omega
    | true =>
      rw [List.filter_cons_of_neg (a := v) (l := t) (p := fun v => !(usV v)) (by rw [hu]; decide)]
      cases hb : zb v with
      | false =>
        rw [List.filter_cons_of_pos (by rw [hu, hb]; rfl), List.map_cons, List.sum_cons]
        omega
      | true =>
        rw [List.filter_cons_of_neg (by rw [hu, hb]; decide), h v List.mem_cons_self hu hb]
        omega
/-- what is needed: the users' part is the reference's sum -/
theorem rel_sum {op : Nat → Bool} {sm : Nat → Nat} {c : Nat → Int8} {vs : List aV} {ms : List aMV} (h : RelU op sm c vs ms) (x : Int32) (pr : Nat) : sumN op sm x pr (kmV vs) vs = (ms.map (wM op sm x pr (kmM ms))).sum + sumN op sm x pr (kmV vs) (vs.filter (fun v => !(usV v))) := by
  obtain ⟨zb, hP, hz⟩ := h
  unfold sumN
  rw [sum_split (zb := zb) vs (fun z h1 h2 h3 => by rw [zom_need h2 (hz z h1 h2 h3)]; rfl)]
  congr 1
  rw [← perm_sum (hP.map (wM op sm x pr (kmM ms))), List.map_map]
  congr 1
  refine List.map_congr_left (fun v hv => ?_)
  have hv := List.mem_filter.mp hv
  rw [Bool.and_eq_true, Bool.not_eq_true'] at hv
  exact (rel_wt hP hz hv.1 hv.2.1 hv.2.2 x pr).1
theorem filter_congr' {α : Type} {p q : α → Bool} {l : List α} (h : ∀ x ∈ l, p x = q x) : l.filter p = l.filter q := List.filter_congr h
/-- purge of the class and prune of the reference keep the relation -/
theorem rel_prune {op : Nat → Bool} {sm : Nat → Nat} {c : Nat → Int8} {vs : List aV} {ms : List aMV} {pr : Nat} (h : RelU op sm c vs ms) (hpr : ∀ v ∈ vs, v.2.1 ≤ pr) : RelU op sm c (vs.filter (keepS op sm pr (kmV vs))) (ms.filter (keepM op sm pr (kmM ms))) := by
  obtain ⟨zb, hP, hz⟩ := h
  refine ⟨fun v => !(needS op sm (-1) pr (kmV vs) (usV v) (ouV v) v.1 v.2.1), ?_, ?_⟩
  · refine List.Perm.trans ?_ (hP.filter _)
    rw [List.filter_map, List.filter_filter, List.filter_filter]
    refine List.Perm.of_eq (congrArg (List.map (toM c)) (List.filter_congr (fun v hv => ?_)))
    rw [Bool.not_not]
    unfold keepS
    cases hu : usV v with
    | false => simp
    | true =>
      cases hb : zb v with
      | true =>
        have := zom_need hu (hz v hv hu hb) (-1) pr (kmV vs)
        rw [hu] at this
        rw [this]
        simp
      | false =>
        have := (rel_wt hP hz hv hu hb (-1) pr).2
        rw [hu] at this
        show _ = (keepM op sm pr (kmM ms) (toM c v) && (true && !false))
        unfold keepM
        rw [← this]
        cases needS op sm (-1) pr (kmV vs) true (ouV v) v.1 v.2.1 <;> rfl
  · intro z hz1 hu hb
    have hz2 := List.mem_filter.mp hz1
    rw [Bool.not_eq_true'] at hb
    have hk := hz2.2
    unfold keepS at hk
    rw [hb, Bool.false_or, Bool.and_eq_true, Bool.and_eq_true] at hk
    obtain ⟨⟨k1, k2⟩, k3⟩ := hk
    unfold needS at hb
    rw [hu, if_neg (show ¬ (true = false) from fun e => by cases e), k3, k1, Bool.true_or, Bool.and_true] at hb
    have hbf : opA op (-1) (fun t => decide (sm t < z.2.1)) 8 = false := hb
    refine ⟨k3, hbf, fun v hv hk2 hlt => ?_⟩
    have hv2 := List.mem_filter.mp hv
    have hns : ∀ m, stK (kmV vs) v.1 v.2.1 m = true → m < z.2.1 := fun m hm => (stK_iff.mp hm).2 z.2.1 (mem_km.mpr ⟨z, hz2.1, hk2.symm, rfl⟩) hlt
    have hst : stK (kmV vs) v.1 v.2.1 pr = false := by
      cases hc : stK (kmV vs) v.1 v.2.1 pr with
      | false => rfl
      | true =>
        have := hns pr hc
        have := hpr z hz2.1
        omega
    have hk := hv2.2
    unfold keepS at hk
    rw [hst, Bool.false_and, Bool.false_and, Bool.or_false] at hk
    unfold needS at hk
    rw [show usV v = true by unfold usV; rw [hk2]; exact hu, if_neg (show ¬ (true = false) from fun e => by cases e), hst, Bool.false_or, Bool.and_eq_true] at hk
    obtain ⟨t, t1, t2, t3, t4⟩ := opA_ex.mp hk.2
    have := hns (sm t) t4
    rw [opA_ex.mpr ⟨t, t1, t2, t3, decide_eq_true this⟩] at hbf
    cases hbf
/-- other transactions: none that sees a moment before -/
theorem RelU.sight {op op' : Nat → Bool} {sm sm' : Nat → Nat} {c : Nat → Int8} {vs : List aV} {ms : List aMV} (h : RelU op sm c vs ms) (ho : ∀ t, t < 8 → op' t = true → (op t = true ∧ sm' t = sm t) ∨ ∀ v ∈ vs, v.2.1 ≤ sm' t) : RelU op' sm' c vs ms := by
  obtain ⟨zb, hP, hz⟩ := h
  refine ⟨zb, hP, fun z h1 h2 h3 => ?_⟩
  obtain ⟨z1, z2, z3⟩ := hz z h1 h2 h3
  refine ⟨z1, ?_, z3⟩
  cases hc : opA op' (-1) (fun t => decide (sm' t < z.2.1)) 8 with
  | false => rfl
  | true =>
    obtain ⟨t, t1, t2, t3, t4⟩ := opA_ex.mp hc
    have t4 := of_decide_eq_true t4
    rcases ho t t1 t2 with ⟨e1, e2⟩ | e
    · rw [e2] at t4
      rw [opA_ex.mpr ⟨t, t1, e1, t3, decide_eq_true t4⟩] at z2
      cases z2
    · have := e z h1
      omega
