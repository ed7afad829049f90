/-! ===== needed, keys and putting in, over lists; by hand ===== -/
def wgV (v : aV) : Nat := wgt (v.1.headD 0) v.1.length v.2.2.2.1
theorem wgV_ver {kf : Nat → Int8} {kl mo pl : Nat → Nat} {le : Nat → Option Nat} {al : Nat → Bool} {s : Nat} (h : 1 ≤ kl s) : wgV (verO kf kl mo pl le al s) = wgt (ub (kf (s * 41))) (kl s) (le s) := by
  unfold wgV verO
  show wgt ((sl kf (s * 41) (kl s)).headD 0) (sl kf (s * 41) (kl s)).length (le s) = _
  rw [sl_length]
  cases hk : kl s with
  | zero => omega
  | succ n => rfl
/-- the sum of what is needed -/
def sumN (op : Nat → Bool) (sm : Nat → Nat) (x : Int32) (pr : Nat) (L : List (List Nat × Nat)) (vs : List aV) : Nat := (vs.map (fun v => if needS op sm x pr L (usV v) (ouV v) v.1 v.2.1 then wgV v else 0)).sum
theorem vsL_succ {kf : Nat → Int8} {kl mo pl : Nat → Nat} {le : Nat → Option Nat} {al : Nat → Bool} {od : Nat → Nat} {n : Nat} : vsL kf kl mo pl le al od (n + 1) = vsL kf kl mo pl le al od n ++ [verO kf kl mo pl le al (od n)] := by
  unfold vsL
  rw [List.range_succ, List.map_append]
  rfl
theorem rc_neededL {sc : Nat × (Nat → Int32)} {d N pr : Nat} {H : aH} {vs : List aV} {op : Nat → Bool} {sm : Nat → Nat} {x : Int32} (g : SightAt H op sm) (hsm : ∀ t, t < 8 → sm t < 2 ^ 31) (h : VersIs H N vs) (hpr : ∀ v ∈ vs, v.2.1 ≤ pr) : RC sc (d + 2) mr_90 [.ref 75, .int x] H (.inl (some (.int (nI (sumN op sm x pr (kmV vs) vs))))) H 0 0 := by
  obtain ⟨kf, kl, mo, pl, le, al, od, sp, sz, ss, ac, h1, hw, hv⟩ := h
  have r := rc_needed (sc := sc) (d := d) (x := x) g hsm h1 hw.1
  have hq : ∀ q, q < sz → mo (od q) ≤ pr := fun q hq => hpr (verO kf kl mo pl le al (od q)) (by rw [hv]; exact List.mem_of_getElem? (vsL_get hq))
  have e : ∀ n, n ≤ sz → ndS op sm kf kl mo le od x n = sumN op sm x pr (kmV vs) (vsL kf kl mo pl le al od n) := by
    intro n
    induction n with
    | zero => exact fun _ => rfl
    | succ n ih =>
      intro hn
      rw [ndS, ih (by omega), vsL_succ]
      unfold sumN
      rw [List.map_append, List.sum_append]
      congr 1
      rw [nd_eq (pl := pl) (al := al) hw.2.2.2.2.2.2.2.2 (show n < sz by omega) hq, ← hv, ← usV_ver (mo := mo) (pl := pl) (le := le) (al := al) (hw.2.2.2.2.2.2.2.1 n (by omega)), ← wgV_ver (mo := mo) (pl := pl) (al := al) (hw.2.2.2.2.2.2.2.1 n (by omega))]
      show _ = _ + 0
      rw [Nat.add_zero]
      rfl
  rw [e sz (Nat.le_refl _), ← hv] at r
  exact r
/-- the number of users' keys that have a value -/
def keysV (pr : Nat) (L : List (List Nat × Nat)) (vs : List aV) : Nat := (vs.filter (fun v => usV v && !(ouV v) && stK L v.1 v.2.1 pr)).length
theorem st_nw {kf : Nat → Int8} {kl mo pl : Nat → Nat} {le : Nat → Option Nat} {al : Nat → Bool} {od : Nat → Nat} {sz p pr : Nat} (hs : srt kf kl mo od sz) (hp : p < sz) (hpr : ∀ q, q < sz → mo (od q) ≤ pr) : stK (kmV (vsL kf kl mo pl le al od sz)) (keyO kf kl od p) (mo (od p)) pr = nwB kf kl od p := by
  rw [Bool.eq_iff_iff, stK_iff, nw_iff hs hp]
  constructor
  · rintro ⟨_, h2⟩ q hq hk hm
    have := h2 (mo (od q)) (mem_kmV.mpr ⟨q, hq, hk, rfl⟩) hm
    have := hpr q hq
    omega
  · intro h
    refine ⟨hpr p hp, fun b hb hab => ?_⟩
    obtain ⟨q, hq, hk, e⟩ := mem_kmV.mp hb
    rw [← e] at hab
    exact absurd hab (h q hq hk)
theorem rc_userKeysL {sc : Nat × (Nat → Int32)} {d N pr : Nat} {H : aH} {vs : List aV} (h : VersIs H N vs) (hpr : ∀ v ∈ vs, v.2.1 ≤ pr) : RC sc (d + 3) mr_198 [.ref 75] H (.inl (some (.int (nI (keysV pr (kmV vs) vs))))) H 0 0 := by
  obtain ⟨kf, kl, mo, pl, le, al, od, sp, sz, ss, ac, h1, hw, hv⟩ := h
  have r := rc_userKeys (sc := sc) (d := d) h1 hw.1
  have hq : ∀ q, q < sz → mo (od q) ≤ pr := fun q hq => hpr (verO kf kl mo pl le al (od q)) (by rw [hv]; exact List.mem_of_getElem? (vsL_get hq))
  have e : cntB (ukB kf kl le od) sz = keysV pr (kmV vs) vs := by
    unfold keysV
    conv => rhs; rw [hv]; unfold vsL
    rw [range_filter_map (kp := ukB kf kl le od) (fun p hp => ?_), List.length_map, cnt_filter]
    unfold ukB
    rw [usV_ver (hw.2.2.2.2.2.2.2.1 p hp), ← st_nw (pl := pl) (le := le) (al := al) hw.2.2.2.2.2.2.2.2 hp hq]
    rfl
  rw [e] at r
  exact r
/-- a version is put in before the first whose key is not before its own -/
def insV (v : aV) : List aV → List aV
  | [] => [v]
  | w :: t => if cmpL w.1 v.1 < 0 then w :: insV v t else v :: w :: t
theorem insV_at (v : aV) : ∀ (vs : List aV) (k : Nat), k ≤ vs.length → (∀ p w, p < k → vs[p]? = some w → cmpL w.1 v.1 < 0) → (∀ p w, k ≤ p → vs[p]? = some w → ¬ cmpL w.1 v.1 < 0) → insV v vs = vs.take k ++ v :: vs.drop k
  | [], k, hk, _, _ => by
    have e : k = 0 := Nat.le_zero.mp hk
    rw [e]
    rfl
  | w :: t, 0, _, _, h2 => by
    rw [insV, if_neg (h2 0 w (Nat.le_refl 0) rfl)]
    rfl
  | w :: t, k + 1, hk, h1, h2 => by
    rw [insV, if_pos (h1 0 w (by omega) rfl), insV_at v t k (Nat.le_of_succ_le_succ hk) (fun p u hp hu => h1 (p + 1) u (by omega) hu) (fun p u hp hu => h2 (p + 1) u (by omega) hu)]
    rfl
theorem get_ins {vs : List aV} {v : aV} {k q : Nat} (hk : k ≤ vs.length) : (vs.take k ++ v :: vs.drop k)[q]? = if q < k then vs[q]? else if q = k then some v else vs[q - 1]? := by
  have hl : (vs.take k).length = k := by rw [List.length_take]; omega
  rw [List.getElem?_append, hl]
  by_cases h1 : q < k
  · rw [if_pos h1, if_pos h1, List.getElem?_take, if_pos h1]
  · rw [if_neg h1, if_neg h1]
    by_cases h2 : q = k
    · rw [if_pos h2, h2, Nat.sub_self]
      rfl
    · rw [if_neg h2]
      have e : q - k = (q - k - 1) + 1 := by omega
      rw [e, List.getElem?_cons_succ, List.getElem?_drop]
      congr 1
      omega
/-- the order behind an insert -/
theorem odI {od : Nat → Nat} {k sz s q : Nat} (hq : q ≤ sz) : va_up (shR od k (sz - k)) k s q = if q < k then od q else if q = k then s else od (q - 1) := by
  unfold va_up shR
  by_cases h1 : q = k
  · rw [if_pos h1, if_neg (by omega), if_pos h1]
  · rw [if_neg h1]
    by_cases h2 : q < k
    · rw [if_neg (by omega), if_pos h2]
    · rw [if_pos (by omega), if_neg h2, if_neg h1]
      congr 1
      omega
theorem up_ne {α : Type} {f : Nat → α} {i j : Nat} {x : α} (h : ¬ j = i) : va_up f i x j = f j := if_neg h
/-- what an insert and the four values behind it make -/
theorem ins_ver {kf g : Nat → Int8} {kl mo pl : Nat → Nat} {le : Nat → Option Nat} {al : Nat → Bool} {s t m j mm pp : Nat} {l : Option Nat} {b : Bool} (hm : m ≤ 41) (ht : kl t ≤ 41) (hst : ¬ t = s) : verO (cpy g j kf (s * 41) m) (va_up kl s m) (va_up mo s mm) (va_up pl s pp) (va_up le s l) (va_up al s b) t = verO kf kl mo pl le al t := by
  unfold verO
  rw [up_ne hst, up_ne hst, up_ne hst, up_ne hst, up_ne hst, sl_cpy_out (by omega)]
theorem ins_new {kf g : Nat → Int8} {kl mo pl : Nat → Nat} {le : Nat → Option Nat} {al : Nat → Bool} {s m j mm pp : Nat} {l : Option Nat} {b : Bool} : verO (cpy g j kf (s * 41) m) (va_up kl s m) (va_up mo s mm) (va_up pl s pp) (va_up le s l) (va_up al s b) s = (sl g j m, mm, pp, l, b) := by
  unfold verO
  rw [up_at, up_at, up_at, up_at, up_at, sl_cpy]
theorem cntB_shift {f g : Nat → Bool} {k : Nat} {b : Bool} : ∀ (n : Nat), k ≤ n → (∀ i, i < k → g i = f i) → g k = b → (∀ i, k ≤ i → i < n → g (i + 1) = f i) → cntB g (n + 1) = cntB f n + (if b = true then 1 else 0)
  | 0, hk, _, h2, _ => by
    have e : k = 0 := by omega
    rw [e] at h2
    show 0 + (if g 0 = true then 1 else 0) = 0 + (if b = true then 1 else 0)
    rw [h2]
  | n + 1, hk, h1, h2, h3 => by
    by_cases e : k = n + 1
    · rw [cntB, ← e, h2, cntB_congr k (fun i hi => h1 i hi)]
    · rw [cntB, h3 n (by omega) (by omega), cntB_shift n (by omega) h1 h2 (fun i hi hi2 => h3 i hi (by omega)), cntB]
      omega
theorem ins_wf {kf g : Nat → Int8} {kl mo pl : Nat → Nat} {le : Nat → Option Nat} {al : Nat → Bool} {od sp : Nat → Nat} {N sz ss ac k m j mm pp : Nat} {l : Option Nat} {b : Bool} (hw : VersWf N kf kl mo pl le al od sp sz ss ac) (hss : 1 ≤ ss) (hm1 : 1 ≤ m) (hm : m ≤ 41) (hc : cutAt kf kl mo od sz (sl g j m) 2147483647 k) (hmm : mm < 2 ^ 30) (hpp : pp < 2 ^ 30) (hl : l.getD 0 < 2 ^ 30) (hnew : ∀ q, q < sz → keyO kf kl od q = sl g j m → mo (od q) < mm) : VersWf N (cpy g j kf (sp (ss - 1) * 41) m) (va_up kl (sp (ss - 1)) m) (va_up mo (sp (ss - 1)) mm) (va_up pl (sp (ss - 1)) pp) (va_up le (sp (ss - 1)) l) (va_up al (sp (ss - 1)) b) (va_up (shR od k (sz - k)) k (sp (ss - 1))) sp (sz + 1) (ss - 1) (ac + (if b = true then 1 else 0)) := by
  obtain ⟨hk, hinj, hN, h4, h5, h6, h7, h8, hs⟩ := hw
  obtain ⟨k1, k2, k3, k4, k5, k6⟩ := hk
  have hsN := k5 (ss - 1) (by omega)
  have hsd : ∀ p, p < sz → ¬ od p = sp (ss - 1) := fun p hp e => h4 (ss - 1) p (by omega) hp e.symm
  have hk := hc.1
  have hod : ∀ q, q ≤ sz → (q < k ∧ va_up (shR od k (sz - k)) k (sp (ss - 1)) q = od q) ∨ (q = k ∧ va_up (shR od k (sz - k)) k (sp (ss - 1)) q = sp (ss - 1)) ∨ (k < q ∧ va_up (shR od k (sz - k)) k (sp (ss - 1)) q = od (q - 1)) := by
    intro q hq
    rw [odI hq]
    by_cases e1 : q < k
    · exact Or.inl ⟨e1, if_pos e1⟩
    · by_cases e2 : q = k
      · exact Or.inr (Or.inl ⟨e2, by rw [if_neg e1, if_pos e2]⟩)
      · exact Or.inr (Or.inr ⟨by omega, by rw [if_neg e1, if_neg e2]⟩)
  have hkey : ∀ q, q ≤ sz → (q < k ∧ keyO (cpy g j kf (sp (ss - 1) * 41) m) (va_up kl (sp (ss - 1)) m) (va_up (shR od k (sz - k)) k (sp (ss - 1))) q = keyO kf kl od q ∧ va_up mo (sp (ss - 1)) mm (va_up (shR od k (sz - k)) k (sp (ss - 1)) q) = mo (od q)) ∨ (q = k ∧ keyO (cpy g j kf (sp (ss - 1) * 41) m) (va_up kl (sp (ss - 1)) m) (va_up (shR od k (sz - k)) k (sp (ss - 1))) q = sl g j m ∧ va_up mo (sp (ss - 1)) mm (va_up (shR od k (sz - k)) k (sp (ss - 1)) q) = mm) ∨ (k < q ∧ keyO (cpy g j kf (sp (ss - 1) * 41) m) (va_up kl (sp (ss - 1)) m) (va_up (shR od k (sz - k)) k (sp (ss - 1))) q = keyO kf kl od (q - 1) ∧ va_up mo (sp (ss - 1)) mm (va_up (shR od k (sz - k)) k (sp (ss - 1)) q) = mo (od (q - 1))) := by
    intro q hq
    unfold keyO
    rcases hod q hq with ⟨e1, e2⟩ | ⟨e1, e2⟩ | ⟨e1, e2⟩
    · have hne := hsd q (by omega)
      have hkl := (k6 (od q) (k4 q (by omega))).1
      rw [e2, up_ne hne, up_ne hne, sl_cpy_out (by omega)]
      exact Or.inl ⟨e1, rfl, rfl⟩
    · rw [e2, up_at, up_at, sl_cpy]
      exact Or.inr (Or.inl ⟨e1, rfl, rfl⟩)
    · have hne := hsd (q - 1) (by omega)
      have hkl := (k6 (od (q - 1)) (k4 (q - 1) (by omega))).1
      rw [e2, up_ne hne, up_ne hne, sl_cpy_out (by omega)]
      exact Or.inr (Or.inr ⟨e1, rfl, rfl⟩)
  have hmax : ∀ q, q < sz → ¬ (2147483647 : Int32) < nI (mo (od q)) := by
    intro q hq
    have := (k6 (od q) (k4 q hq)).2.1
    exact nI_nlt (a := 2147483647) (b := mo (od q)) (by omega) (by decide)
  refine ⟨⟨k1, by omega, by omega, ?_, fun i hi => k5 i (by omega), ?_⟩, ?_, by omega, ?_, ?_, ?_, ?_, ?_, ?_⟩
  · intro q hq
    rcases hod q (by omega) with ⟨e1, e2⟩ | ⟨e1, e2⟩ | ⟨e1, e2⟩
    · rw [e2]; exact k4 q (by omega)
    · rw [e2]; exact hsN
    · rw [e2]; exact k4 (q - 1) (by omega)
  · intro t ht
    obtain ⟨t1, t2, t3, t4⟩ := k6 t ht
    unfold va_up
    by_cases e : t = sp (ss - 1)
    · rw [if_pos e, if_pos e, if_pos e, if_pos e]
      exact ⟨hm, hmm, hpp, hl⟩
    · rw [if_neg e, if_neg e, if_neg e, if_neg e]
      exact ⟨t1, t2, t3, t4⟩
  · intro p q hp hq e
    rcases hod p (by omega) with ⟨p1, p2⟩ | ⟨p1, p2⟩ | ⟨p1, p2⟩ <;> rcases hod q (by omega) with ⟨q1, q2⟩ | ⟨q1, q2⟩ | ⟨q1, q2⟩ <;> rw [p2, q2] at e
    · exact hinj p q (by omega) (by omega) e
    · exact absurd e (hsd p (by omega))
    · have := hinj p (q - 1) (by omega) (by omega) e; omega
    · exact absurd e.symm (hsd q (by omega))
    · omega
    · exact absurd e.symm (hsd (q - 1) (by omega))
    · have := hinj (p - 1) q (by omega) (by omega) e; omega
    · exact absurd e (hsd (p - 1) (by omega))
    · have := hinj (p - 1) (q - 1) (by omega) (by omega) e; omega
  · intro i p hi hp e
    rcases hod p (by omega) with ⟨p1, p2⟩ | ⟨p1, p2⟩ | ⟨p1, p2⟩ <;> rw [p2] at e
    · exact h4 i p (by omega) (by omega) e
    · have := h5 i (ss - 1) (by omega) (by omega) e; omega
    · exact h4 i (p - 1) (by omega) (by omega) e
  · exact fun i j2 hi hj e => h5 i j2 (by omega) (by omega) e
  · intro i hi
    rw [up_ne (fun e => by have := h5 i (ss - 1) (by omega) (by omega) e; omega)]
    exact h6 i (by omega)
  · rw [h7]
    refine (cntB_shift (k := k) sz hk (fun i hi => ?_) ?_ (fun i hi hi2 => ?_)).symm
    · rcases hod i (by omega) with ⟨p1, p2⟩ | ⟨p1, p2⟩ | ⟨p1, p2⟩
      · show va_up al _ b _ = _
        rw [p2, up_ne (hsd i (by omega))]
      · omega
      · omega
    · rcases hod k hk with ⟨p1, p2⟩ | ⟨p1, p2⟩ | ⟨p1, p2⟩
      · omega
      · show va_up al _ b _ = _
        rw [p2, up_at]
      · omega
    · rcases hod (i + 1) (by omega) with ⟨p1, p2⟩ | ⟨p1, p2⟩ | ⟨p1, p2⟩
      · omega
      · omega
      · show va_up al _ b _ = _
        rw [p2, Nat.add_sub_cancel, up_ne (hsd i (by omega))]
  · intro p hp
    rcases hod p (by omega) with ⟨p1, p2⟩ | ⟨p1, p2⟩ | ⟨p1, p2⟩ <;> rw [p2]
    · rw [up_ne (hsd p (by omega))]; exact h8 p (by omega)
    · rw [up_at]; exact hm1
    · rw [up_ne (hsd (p - 1) (by omega))]; exact h8 (p - 1) (by omega)
  · intro p q hpq hq
    rcases hkey p (by omega) with ⟨p1, p2, p3⟩ | ⟨p1, p2, p3⟩ | ⟨p1, p2, p3⟩ <;> rcases hkey q (by omega) with ⟨q1, q2, q3⟩ | ⟨q1, q2, q3⟩ | ⟨q1, q2, q3⟩ <;> rw [p2, p3, q2, q3]
    · exact hs p q hpq (by omega)
    · rcases hc.2.1 p p1 with e | ⟨_, e⟩
      · exact Or.inl e
      · exact absurd e (hmax p (by omega))
    · exact hs p (q - 1) (by omega) (by omega)
    · omega
    · omega
    · have hnb := hc.2.2 (q - 1) (by omega) (by omega)
      by_cases e : keyO kf kl od (q - 1) = sl g j m
      · exact Or.inr ⟨e.symm, hnew (q - 1) (by omega) e⟩
      · refine Or.inl ?_
        have h9 : ¬ cmpL (keyO kf kl od (q - 1)) (sl g j m) < 0 := fun e2 => hnb (Or.inl e2)
        have h10 : ¬ cmpL (keyO kf kl od (q - 1)) (sl g j m) = 0 := fun e2 => e (cmpL_eq.mp e2)
        rw [cmpL_anti]
        omega
    · omega
    · omega
    · exact hs (p - 1) (q - 1) (by omega) (by omega)
theorem ins_vs {kf g : Nat → Int8} {kl mo pl : Nat → Nat} {le : Nat → Option Nat} {al : Nat → Bool} {od sp : Nat → Nat} {N sz ss ac k m j mm pp : Nat} {l : Option Nat} {b : Bool} (hw : VersWf N kf kl mo pl le al od sp sz ss ac) (hss : 1 ≤ ss) (hm : m ≤ 41) (hc : cutAt kf kl mo od sz (sl g j m) 2147483647 k) : vsL (cpy g j kf (sp (ss - 1) * 41) m) (va_up kl (sp (ss - 1)) m) (va_up mo (sp (ss - 1)) mm) (va_up pl (sp (ss - 1)) pp) (va_up le (sp (ss - 1)) l) (va_up al (sp (ss - 1)) b) (va_up (shR od k (sz - k)) k (sp (ss - 1))) (sz + 1) = insV (sl g j m, mm, pp, l, b) (vsL kf kl mo pl le al od sz) := by
  obtain ⟨hk, hinj, hN, h4, h5, h6, h7, h8, hs⟩ := hw
  obtain ⟨k1, k2, k3, k4, k5, k6⟩ := hk
  have hk := hc.1
  have hsd : ∀ p, p < sz → ¬ od p = sp (ss - 1) := fun p hp e => h4 (ss - 1) p (by omega) hp e.symm
  rw [insV_at _ (vsL kf kl mo pl le al od sz) k (by rw [vsL_len]; exact hk) ?_ ?_]
  · refine List.ext_getElem? (fun q => ?_)
    rw [get_ins (by rw [vsL_len]; exact hk)]
    by_cases hq : q ≤ sz
    · rw [vsL_get (by omega), odI hq]
      by_cases e1 : q < k
      · rw [if_pos e1, if_pos e1, vsL_get (by omega), ins_ver hm (k6 _ (k4 q (by omega))).1 (hsd q (by omega))]
      · rw [if_neg e1, if_neg e1]
        by_cases e2 : q = k
        · rw [if_pos e2, if_pos e2, ins_new]
        · rw [if_neg e2, if_neg e2, vsL_get (by omega), ins_ver hm (k6 _ (k4 (q - 1) (by omega))).1 (hsd (q - 1) (by omega))]
    · rw [if_neg (by omega), if_neg (by omega), List.getElem?_eq_none (by rw [vsL_len]; omega), List.getElem?_eq_none (by rw [vsL_len]; omega)]
  · intro p w hp hw
    rw [vsL_get (by omega)] at hw
    rw [← Option.some.inj hw]
    rcases hc.2.1 p hp with e | ⟨_, e⟩
    · exact e
    · have := (k6 (od p) (k4 p (by omega))).2.1
      exact absurd e (nI_nlt (a := 2147483647) (b := mo (od p)) (by omega) (by decide))
  · intro p w hp hw e
    by_cases hps : p < sz
    · rw [vsL_get hps] at hw
      rw [← Option.some.inj hw] at e
      exact hc.2.2 p hp hps (Or.inl e)
    · rw [List.getElem?_eq_none (by rw [vsL_len]; omega)] at hw
      cases hw
