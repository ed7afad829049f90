/-! ===== the pieces of the reference as a list (file, index, bytes); kept so long, dropped; written by wip/gen/mpcs.py ===== -/
abbrev aPc := Nat × Nat × List Int8
def plen (ps : List aPc) : Nat := (ps.map (fun x => x.2.2.length)).sum
/-- the pieces of the reference are these -/
def PcsIs (H : aH) (ps : List aPc) : Prop := ∃ pf px pz pa hd, MPAt H pf px pz pa hd ∧ (∀ j x, ps[j]? = some x → pf j = x.1 ∧ px j = x.2.1 ∧ pz j = x.2.2.length ∧ pa j + pz j ≤ plen ps ∧ ∀ t b, x.2.2[t]? = some b → hd (pa j + t) = b) ∧ (∀ i j, i < ps.length → j < ps.length → i ≠ j → pa i + pz i ≤ pa j ∨ pa j + pz j ≤ pa i)
theorem PcsIs.far {H H' : aH} {ps : List aPc} (h : PcsIs H ps) (hs : ∀ a, 218 ≤ a → a < 223 → H'[a]? = H[a]?) : PcsIs H' ps := by
  obtain ⟨pf, px, pz, pa, hd, h1, h2, h3⟩ := h
  exact ⟨pf, px, pz, pa, hd, h1.far hs, h2, h3⟩
/-- bytes, made so long -/
def fitB (b : List Int8) (n : Nat) : List Int8 := b.take n ++ List.replicate (n - b.length) 0
theorem fitB_len (b : List Int8) (n : Nat) : (fitB b n).length = n := by
  unfold fitB
  rw [List.length_append, List.length_take, List.length_replicate]
  omega
theorem fitB_get {b : List Int8} {n t : Nat} {y : Int8} (h : (fitB b n)[t]? = some y) : t < n ∧ ((t < b.length ∧ b[t]? = some y) ∨ (b.length ≤ t ∧ y = 0)) := by
  have ht := get_lt h
  rw [fitB_len] at ht
  refine ⟨ht, ?_⟩
  unfold fitB at h
  by_cases hb : t < b.length
  · rw [List.getElem?_append_left (by rw [List.length_take]; omega), List.getElem?_take_of_lt ht] at h
    exact .inl ⟨hb, h⟩
  · rw [List.getElem?_append_right (by rw [List.length_take]; omega), List.getElem?_replicate] at h
    by_cases c : t - (b.take n).length < n - b.length
    · rw [if_pos c] at h
      exact .inr ⟨by omega, (Option.some.inj h).symm⟩
    · rw [if_neg c] at h
      cases h
theorem plen_set {ps : List aPc} {p : Nat} {x y : aPc} (h : ps[p]? = some x) : plen (ps.set p y) + x.2.2.length = plen ps + y.2.2.length := by
  unfold plen
  induction ps generalizing p with
  | nil => cases h
  | cons z l ih =>
    cases p with
    | zero =>
      cases h
      rw [List.set_cons_zero, List.map_cons, List.map_cons, List.sum_cons, List.sum_cons]
      omega
    | succ p =>
      have := ih (p := p) h
      rw [List.set_cons_succ, List.map_cons, List.map_cons, List.sum_cons, List.sum_cons]
      omega
theorem plen_mem {ps : List aPc} {p : Nat} {x : aPc} (h : ps[p]? = some x) : x.2.2.length ≤ plen ps := by
  have := plen_set (y := (x.1, x.2.1, [])) h
  have e : (([] : List Int8)).length = 0 := rfl
  have := this
  dsimp only at this
  omega
/-- a piece is kept so long -/
def keepP (ps : List aPc) (p n : Nat) (x : aPc) : List aPc := ps.set p (x.1, x.2.1, fitB x.2.2 n)
theorem rn_keepL {sc : Nat × (Nat → Int32)} {d : Nat} {H : aH} {fa li dn cw cl tp rs pr ve us : Int32} {ba bo : Nat} {ps : List aPc} {p n : Nat} {x : aPc} (hm : H[195]? = some (kO 12 (mfs fa li dn cw cl tp rs pr ve us (nI ps.length) (nI (plen ps)) ba bo))) (h : PcsIs H ps) (hx : ps[p]? = some x) (hpi : ps.length ≤ 1300) (hhu : plen ps ≤ 40000) (hn : n ≤ 512) (hr : plen (keepP ps p n x) ≤ 40000) : RN sc d mr_316 [.ref 196, .int (nI p), .int (nI n)] H (fun H' => H'[195]? = some (kO 12 (mfs fa li dn cw cl tp rs pr ve us (nI (keepP ps p n x).length) (nI (plen (keepP ps p n x))) ba bo)) ∧ PcsIs H' (keepP ps p n x) ∧ ∀ a, ¬ (a = 195 ∨ a = 220 ∨ a = 221 ∨ a = 222) → H'[a]? = H[a]?) := by
  obtain ⟨pf, px, pz, pa, hd, hA, hE, hD⟩ := h
  have hp := get_lt hx
  obtain ⟨e1, e2, e3, e4, e5⟩ := hE p x hx
  have hps := plen_set (y := (x.1, x.2.1, fitB x.2.2 n)) hx
  change plen (keepP ps p n x) + x.2.2.length = plen ps + (fitB x.2.2 n).length at hps
  rw [fitB_len] at hps
  have hlen : (keepP ps p n x).length = ps.length := List.length_set
  have hb : ∀ j, j < ps.length → pa j + pz j ≤ plen ps := fun j hj => by
    obtain ⟨y, hy⟩ := lt_get hj
    exact (hE j y hy).2.2.2.1
  have hself : (keepP ps p n x)[p]? = some (x.1, x.2.1, fitB x.2.2 n) := by unfold keepP; rw [List.getElem?_set_self hp]
  have hother : ∀ j, ¬ j = p → (keepP ps p n x)[j]? = ps[j]? := fun j hj => by unfold keepP; exact List.getElem?_set_ne (fun e => hj e.symm)
  by_cases hg : pz p < n
  · obtain ⟨H1, r1, h1, h2, h3⟩ := rn_keepG (sc := sc) (d := d) hm hA hp hpi hb hhu hn hg (by omega)
    refine ⟨H1, r1, ?_, ⟨_, _, _, _, _, h2, ?_, ?_⟩, h3⟩
    · rw [hlen, show plen (keepP ps p n x) = plen ps + (n - pz p) by omega]
      exact h1
    · intro j y hy
      by_cases hj : j = p
      · rw [hj] at hy ⊢
        rw [hself] at hy
        cases hy
        refine ⟨e1, e2, ?_, ?_, ?_⟩
        · rw [up_at, fitB_len]
        · rw [up_at, if_neg (fun e => e.2.1 rfl)]
          omega
        · intro t b ht
          rw [if_neg (c := p < ps.length ∧ ¬ p = p ∧ pa p + pz p ≤ pa p) (fun e => e.2.1 rfl)]
          obtain ⟨t1, t2⟩ := fitB_get ht
          rcases t2 with ⟨t2, t3⟩ | ⟨t2, t3⟩
          · rw [if_pos (by omega)]
            exact e5 t b t3
          · rw [if_neg (by omega), if_pos (by omega)]
            exact t3.symm
      · rw [hother j hj] at hy
        obtain ⟨y1, y2, y3, y4, y5⟩ := hE j y hy
        have hjl := get_lt hy
        have hdj := hD p j hp hjl (fun e => hj e.symm)
        refine ⟨y1, y2, ?_, ?_, ?_⟩
        · rw [up_ne hj]; exact y3
        · rw [up_ne hj]
          by_cases c : j < ps.length ∧ ¬ j = p ∧ pa p + pz p ≤ pa j
          · rw [if_pos c]; omega
          · rw [if_neg c]; omega
        · intro t b ht
          have htl := get_lt ht
          by_cases c : j < ps.length ∧ ¬ j = p ∧ pa p + pz p ≤ pa j
          · rw [if_pos c]
            rw [if_neg (by omega), if_neg (by omega), if_pos (by omega), show pa j + (n - pz p) + t - (n - pz p) = pa j + t by omega]
            exact y5 t b ht
          · rw [if_neg c]
            have hc : ¬ pa p + pz p ≤ pa j := fun e => c ⟨hjl, hj, e⟩
            rw [if_pos (by omega)]
            exact y5 t b ht
    · intro i j hi hj hij
      rw [hlen] at hi hj
      have hdij := hD i j hi hj hij
      by_cases ci : i = p
      · have cj : ¬ j = p := fun e => hij (ci.trans e.symm)
        rw [ci] at hdij ⊢
        rw [up_at, up_ne cj, if_neg (fun e => e.2.1 rfl)]
        by_cases c : j < ps.length ∧ ¬ j = p ∧ pa p + pz p ≤ pa j
        · rw [if_pos c]; omega
        · have hc : ¬ pa p + pz p ≤ pa j := fun e => c ⟨hj, cj, e⟩
          rw [if_neg c]; omega
      · by_cases cj : j = p
        · rw [cj] at hdij ⊢
          rw [up_at, up_ne ci, if_neg (c := p < ps.length ∧ ¬ p = p ∧ pa p + pz p ≤ pa p) (fun e => e.2.1 rfl)]
          by_cases c : i < ps.length ∧ ¬ i = p ∧ pa p + pz p ≤ pa i
          · rw [if_pos c]; omega
          · have hc : ¬ pa p + pz p ≤ pa i := fun e => c ⟨hi, ci, e⟩
            rw [if_neg c]; omega
        · rw [up_ne ci, up_ne cj]
          by_cases c : i < ps.length ∧ ¬ i = p ∧ pa p + pz p ≤ pa i
          · rw [if_pos c]
            by_cases c2 : j < ps.length ∧ ¬ j = p ∧ pa p + pz p ≤ pa j
            · rw [if_pos c2]; omega
            · have hc : ¬ pa p + pz p ≤ pa j := fun e => c2 ⟨hj, cj, e⟩
              rw [if_neg c2]; omega
          · have hc : ¬ pa p + pz p ≤ pa i := fun e => c ⟨hi, ci, e⟩
            rw [if_neg c]
            by_cases c2 : j < ps.length ∧ ¬ j = p ∧ pa p + pz p ≤ pa j
            · rw [if_pos c2]; omega
            · rw [if_neg c2]; omega
  · obtain ⟨H1, r1, h1, h2, h3⟩ := rn_keepS (sc := sc) (d := d) hm hA hp hpi hb hhu hn (by omega)
    refine ⟨H1, r1, ?_, ⟨_, _, _, _, _, h2, ?_, ?_⟩, h3⟩
    · rw [hlen, show plen (keepP ps p n x) = plen ps - (pz p - n) by omega]
      exact h1
    · intro j y hy
      by_cases hj : j = p
      · rw [hj] at hy ⊢
        rw [hself] at hy
        cases hy
        refine ⟨e1, e2, ?_, ?_, ?_⟩
        · rw [up_at, fitB_len]
        · rw [up_at, if_neg (fun e => e.2.1 rfl)]
          omega
        · intro t b ht
          rw [if_neg (c := p < ps.length ∧ ¬ p = p ∧ pa p + pz p ≤ pa p) (fun e => e.2.1 rfl)]
          obtain ⟨t1, t2⟩ := fitB_get ht
          rcases t2 with ⟨t2, t3⟩ | ⟨t2, t3⟩
          · rw [if_neg (by omega)]
            exact e5 t b t3
          · omega
      · rw [hother j hj] at hy
        obtain ⟨y1, y2, y3, y4, y5⟩ := hE j y hy
        have hjl := get_lt hy
        have hdj := hD p j hp hjl (fun e => hj e.symm)
        refine ⟨y1, y2, ?_, ?_, ?_⟩
        · rw [up_ne hj]; exact y3
        · rw [up_ne hj]
          by_cases c : j < ps.length ∧ ¬ j = p ∧ pa p + pz p ≤ pa j
          · rw [if_pos c]; omega
          · have hc : ¬ pa p + pz p ≤ pa j := fun e => c ⟨hjl, hj, e⟩
            rw [if_neg c]; omega
        · intro t b ht
          have htl := get_lt ht
          by_cases c : j < ps.length ∧ ¬ j = p ∧ pa p + pz p ≤ pa j
          · rw [if_pos c]
            rw [if_pos (by omega), show pa j - (pz p - n) + t + (pz p - n) = pa j + t by omega]
            exact y5 t b ht
          · rw [if_neg c]
            have hc : ¬ pa p + pz p ≤ pa j := fun e => c ⟨hjl, hj, e⟩
            rw [if_neg (by omega)]
            exact y5 t b ht
    · intro i j hi hj hij
      rw [hlen] at hi hj
      have hdij := hD i j hi hj hij
      have hdpi : ¬ i = p → _ := fun e => hD p i hp hi (fun e2 => e e2.symm)
      have hdpj : ¬ j = p → _ := fun e => hD p j hp hj (fun e2 => e e2.symm)
      by_cases ci : i = p
      · have cj : ¬ j = p := fun e => hij (ci.trans e.symm)
        rw [ci] at hdij ⊢
        rw [up_at, up_ne cj, if_neg (c := p < ps.length ∧ ¬ p = p ∧ pa p + pz p ≤ pa p) (fun e => e.2.1 rfl)]
        by_cases c : j < ps.length ∧ ¬ j = p ∧ pa p + pz p ≤ pa j
        · rw [if_pos c]; omega
        · have hc : ¬ pa p + pz p ≤ pa j := fun e => c ⟨hj, cj, e⟩
          rw [if_neg c]; omega
      · have hpi2 := hdpi ci
        by_cases cj : j = p
        · rw [cj] at hdij ⊢
          rw [up_at, up_ne ci, if_neg (c := p < ps.length ∧ ¬ p = p ∧ pa p + pz p ≤ pa p) (fun e => e.2.1 rfl)]
          by_cases c : i < ps.length ∧ ¬ i = p ∧ pa p + pz p ≤ pa i
          · rw [if_pos c]; omega
          · have hc : ¬ pa p + pz p ≤ pa i := fun e => c ⟨hi, ci, e⟩
            rw [if_neg c]; omega
        · have hpj2 := hdpj cj
          rw [up_ne ci, up_ne cj]
          by_cases c : i < ps.length ∧ ¬ i = p ∧ pa p + pz p ≤ pa i
          · rw [if_pos c]
            by_cases c2 : j < ps.length ∧ ¬ j = p ∧ pa p + pz p ≤ pa j
            · rw [if_pos c2]; omega
            · have hc : ¬ pa p + pz p ≤ pa j := fun e => c2 ⟨hj, cj, e⟩
              rw [if_neg c2]; omega
          · have hc : ¬ pa p + pz p ≤ pa i := fun e => c ⟨hi, ci, e⟩
            rw [if_neg c]
            by_cases c2 : j < ps.length ∧ ¬ j = p ∧ pa p + pz p ≤ pa j
            · rw [if_pos c2]; omega
            · rw [if_neg c2]; omega
/-- a piece is dropped: the last one takes its place -/
def dropP (ps : List aPc) (p : Nat) : List aPc := match ps[ps.length - 1]? with
  | some z => (ps.set p z).take (ps.length - 1)
  | none => ps
theorem dropP_get {ps : List aPc} {p j : Nat} {y : aPc} (hp : p < ps.length) (h : (dropP ps p)[j]? = some y) : j < ps.length - 1 ∧ ps[if j = p then ps.length - 1 else j]? = some y := by
  obtain ⟨z, hz⟩ := lt_get (show ps.length - 1 < ps.length by omega)
  unfold dropP at h
  rw [hz] at h
  dsimp only at h
  rw [List.getElem?_take] at h
  by_cases hj : j < ps.length - 1
  · rw [if_pos hj] at h
    refine ⟨hj, ?_⟩
    by_cases e : j = p
    · rw [if_pos e, hz]
      rw [e, List.getElem?_set_self hp] at h
      exact h
    · rw [if_neg e]
      rw [List.getElem?_set_ne (fun e2 => e e2.symm)] at h
      exact h
  · rw [if_neg hj] at h
    cases h
theorem dropP_perm {ps : List aPc} {p : Nat} (hp : p < ps.length) : (dropP ps p).Perm (ps.eraseIdx p) := by
  obtain ⟨z, hz⟩ := lt_get (show ps.length - 1 < ps.length by omega)
  have hne : ps ≠ [] := fun e => by rw [e] at hp; exact absurd hp (Nat.not_lt_zero _)
  have hl : ps = ps.take (ps.length - 1) ++ [z] := by
    have := List.take_append_drop (ps.length - 1) ps
    rw [List.drop_eq_getElem_cons (by omega), List.drop_of_length_le (by omega)] at this
    rw [List.getElem?_eq_getElem (by omega)] at hz
    rw [Option.some.inj hz] at this
    exact this.symm
  unfold dropP
  rw [hz]
  dsimp only
  by_cases e : p = ps.length - 1
  · rw [e, List.take_set, List.set_eq_of_length_le (by rw [List.length_take]; omega), List.eraseIdx_eq_take_drop_succ, List.drop_of_length_le (by omega), List.append_nil]
  · have hpl : p < (ps.take (ps.length - 1)).length := by rw [List.length_take]; omega
    have e2 : (ps.set p z).take (ps.length - 1) = (ps.take (ps.length - 1)).set p z := List.take_set
    rw [e2]
    have e3 : ps.eraseIdx p = (ps.take (ps.length - 1)).eraseIdx p ++ [z] := by
      conv => lhs; rw [hl]
      exact List.eraseIdx_append_of_lt_length hpl _
    rw [e3, List.eraseIdx_eq_take_drop_succ, List.set_eq_take_append_cons_drop, if_pos hpl]
    refine List.Perm.trans List.perm_middle ?_
    exact (List.perm_append_singleton z _).symm
theorem plen_perm {a b : List aPc} (h : a.Perm b) : plen a = plen b := (h.map _).sum_nat
theorem plen_erase {ps : List aPc} {p : Nat} {x : aPc} (h : ps[p]? = some x) : plen (ps.eraseIdx p) + x.2.2.length = plen ps := by
  unfold plen
  induction ps generalizing p with
  | nil => cases h
  | cons z l ih =>
    cases p with
    | zero =>
      cases h
      rw [List.eraseIdx_cons_zero, List.map_cons, List.sum_cons]
      omega
    | succ p =>
      have := ih (p := p) h
      rw [List.eraseIdx_cons_succ, List.map_cons, List.map_cons, List.sum_cons, List.sum_cons]
      omega
theorem rn_dropP {sc : Nat × (Nat → Int32)} {d : Nat} {H : aH} {fa li dn cw cl tp rs pr ve us : Int32} {ba bo : Nat} {ps : List aPc} {p : Nat} (hm : H[195]? = some (kO 12 (mfs fa li dn cw cl tp rs pr ve us (nI ps.length) (nI (plen ps)) ba bo))) (h : PcsIs H ps) (hp : p < ps.length) (hpi : ps.length ≤ 1300) (hhu : plen ps ≤ 40000) : RN sc (d + 1) mr_315 [.ref 196, .int (nI p)] H (fun H' => H'[195]? = some (kO 12 (mfs fa li dn cw cl tp rs pr ve us (nI (dropP ps p).length) (nI (plen (dropP ps p))) ba bo)) ∧ PcsIs H' (dropP ps p) ∧ ∀ a, ¬ (a = 195 ∨ (218 ≤ a ∧ a < 223)) → H'[a]? = H[a]?) := by
  refine RN.of ?_
  obtain ⟨x, hx⟩ := lt_get hp
  have hps := plen_set (y := (x.1, x.2.1, fitB x.2.2 0)) hx
  change plen (keepP ps p 0 x) + x.2.2.length = plen ps + (fitB x.2.2 0).length at hps
  rw [fitB_len] at hps
  have hlen : (keepP ps p 0 x).length = ps.length := List.length_set
  refine RQ.blk 3 (pc' := 3) (lv' := [(0, .ref 196), (1, .int (nI p))]) (st' := [.int 0, .int (nI p), .ref 196]) (H' := _) (kc' := 0) (ks' := 0) rfl ?_
  refine RQ.callN (st' := []) rfl rfl rfl rfl rfl rfl (args_v [.int 0, .int (nI p)] [] rfl rfl (Nat.le_of_ble_eq_true rfl) rfl hm (Nat.le_of_ble_eq_true rfl)) (rn_keepL (n := 0) hm h hx hpi hhu (by omega) (by omega)) (fun H1 hx1 => ?_)
  obtain ⟨hm1, hP1, f1⟩ := hx1
  rw [hlen] at hm1
  obtain ⟨pf, px, pz, pa, hd, hA, hE, hD⟩ := hP1
  have hl1 : ps.length - 1 < ps.length := by omega
  refine RQ.blk 2 (pc' := 8) (lv' := [(0, .ref 196), (1, .int (nI p))]) (st' := [.ref 196, .ref 196]) (H' := _) (kc' := 0) (ks' := 0) rfl ?_
  refine RQ.get (ci := 12) rfl hm1 rfl rfl ?_
  refine RQ.blk 2 (pc' := 13) (lv' := [(0, .ref 196), (1, .int (nI p))]) (st' := [.int (nI ps.length - 1), .ref 196]) (H' := _) (kc' := 0) (ks' := 0) rfl ?_
  rw [show (nI ps.length - 1 : Int32) = nI (ps.length - 1) from pk_sub (a := ps.length) (b := 1) (by omega)]
  refine RQ.put (ci := 12) rfl hm1 rfl rfl (Nat.le_of_ble_eq_true rfl) ?_
  refine RQ.blk 1 (pc' := 17) (lv' := [(0, .ref 196), (1, .int (nI p))]) (st' := [.ref 196]) (H' := _) (kc' := 0) (ks' := 0) rfl ?_
  refine RQ.get (ci := 12) rfl (get_set hm1) rfl rfl ?_
  refine RQ.blk 2 (pc' := 22) (lv' := [(0, .ref 196), (1, .int (nI p))]) (st' := [.ref 196, .int (nI p), .ref 219]) (H' := _) (kc' := 0) (ks' := 0) rfl ?_
  refine RQ.get (ci := 12) rfl (get_set hm1) rfl rfl ?_
  refine RQ.blk 1 (pc' := 26) (lv' := [(0, .ref 196), (1, .int (nI p))]) (st' := [.ref 196, .ref 219, .int (nI p), .ref 219]) (H' := _) (kc' := 0) (ks' := 0) rfl ?_
  refine RQ.get (ci := 12) rfl (get_set hm1) rfl rfl ?_
  refine RQ.ialdN (j := ps.length - 1) rfl ((set_far (by decide)).trans hA.1) (by omega) (by decide) ?_
  refine RQ.iastN (j := p) rfl ((set_far (by decide)).trans hA.1) (by omega) (by decide) ?_
  rw [up_nI]
  refine RQ.blk 1 (pc' := 32) (lv' := [(0, .ref 196), (1, .int (nI p))]) (st' := [.ref 196]) (H' := _) (kc' := 0) (ks' := 0) rfl ?_
  refine RQ.get (ci := 12) rfl ((set_far (by decide)).trans (get_set hm1)) rfl rfl ?_
  refine RQ.blk 2 (pc' := 37) (lv' := [(0, .ref 196), (1, .int (nI p))]) (st' := [.ref 196, .int (nI p), .ref 220]) (H' := _) (kc' := 0) (ks' := 0) rfl ?_
  refine RQ.get (ci := 12) rfl ((set_far (by decide)).trans (get_set hm1)) rfl rfl ?_
  refine RQ.blk 1 (pc' := 41) (lv' := [(0, .ref 196), (1, .int (nI p))]) (st' := [.ref 196, .ref 220, .int (nI p), .ref 220]) (H' := _) (kc' := 0) (ks' := 0) rfl ?_
  refine RQ.get (ci := 12) rfl ((set_far (by decide)).trans (get_set hm1)) rfl rfl ?_
  refine RQ.ialdN (j := ps.length - 1) rfl ((set_far (by decide)).trans ((set_far (by decide)).trans hA.2.1)) (by omega) (by decide) ?_
  refine RQ.iastN (j := p) rfl ((set_far (by decide)).trans ((set_far (by decide)).trans hA.2.1)) (by omega) (by decide) ?_
  rw [up_nI]
  refine RQ.blk 1 (pc' := 47) (lv' := [(0, .ref 196), (1, .int (nI p))]) (st' := [.ref 196]) (H' := _) (kc' := 0) (ks' := 0) rfl ?_
  refine RQ.get (ci := 12) rfl ((set_far (by decide)).trans ((set_far (by decide)).trans (get_set hm1))) rfl rfl ?_
  refine RQ.blk 2 (pc' := 52) (lv' := [(0, .ref 196), (1, .int (nI p))]) (st' := [.ref 196, .int (nI p), .ref 221]) (H' := _) (kc' := 0) (ks' := 0) rfl ?_
  refine RQ.get (ci := 12) rfl ((set_far (by decide)).trans ((set_far (by decide)).trans (get_set hm1))) rfl rfl ?_
  refine RQ.blk 1 (pc' := 56) (lv' := [(0, .ref 196), (1, .int (nI p))]) (st' := [.ref 196, .ref 221, .int (nI p), .ref 221]) (H' := _) (kc' := 0) (ks' := 0) rfl ?_
  refine RQ.get (ci := 12) rfl ((set_far (by decide)).trans ((set_far (by decide)).trans (get_set hm1))) rfl rfl ?_
  refine RQ.ialdN (j := ps.length - 1) rfl ((set_far (by decide)).trans ((set_far (by decide)).trans ((set_far (by decide)).trans hA.2.2.1))) (by omega) (by decide) ?_
  refine RQ.iastN (j := p) rfl ((set_far (by decide)).trans ((set_far (by decide)).trans ((set_far (by decide)).trans hA.2.2.1))) (by omega) (by decide) ?_
  rw [up_nI]
  refine RQ.blk 1 (pc' := 62) (lv' := [(0, .ref 196), (1, .int (nI p))]) (st' := [.ref 196]) (H' := _) (kc' := 0) (ks' := 0) rfl ?_
  refine RQ.get (ci := 12) rfl ((set_far (by decide)).trans ((set_far (by decide)).trans ((set_far (by decide)).trans (get_set hm1)))) rfl rfl ?_
  refine RQ.blk 2 (pc' := 67) (lv' := [(0, .ref 196), (1, .int (nI p))]) (st' := [.ref 196, .int (nI p), .ref 222]) (H' := _) (kc' := 0) (ks' := 0) rfl ?_
  refine RQ.get (ci := 12) rfl ((set_far (by decide)).trans ((set_far (by decide)).trans ((set_far (by decide)).trans (get_set hm1)))) rfl rfl ?_
  refine RQ.blk 1 (pc' := 71) (lv' := [(0, .ref 196), (1, .int (nI p))]) (st' := [.ref 196, .ref 222, .int (nI p), .ref 222]) (H' := _) (kc' := 0) (ks' := 0) rfl ?_
  refine RQ.get (ci := 12) rfl ((set_far (by decide)).trans ((set_far (by decide)).trans ((set_far (by decide)).trans (get_set hm1)))) rfl rfl ?_
  refine RQ.ialdN (j := ps.length - 1) rfl ((set_far (by decide)).trans ((set_far (by decide)).trans ((set_far (by decide)).trans ((set_far (by decide)).trans hA.2.2.2.1)))) (by omega) (by decide) ?_
  refine RQ.iastN (j := p) rfl ((set_far (by decide)).trans ((set_far (by decide)).trans ((set_far (by decide)).trans ((set_far (by decide)).trans hA.2.2.2.1)))) (by omega) (by decide) ?_
  rw [up_nI]
  have hz : ∃ z, ps[ps.length - 1]? = some z := lt_get (by omega)
  obtain ⟨z, hz⟩ := hz
  have hdl : (dropP ps p).length = ps.length - 1 := by unfold dropP; rw [hz]; dsimp only; rw [List.length_take, List.length_set]; omega
  have hpl : plen (dropP ps p) = plen (keepP ps p 0 x) := by
    rw [plen_perm (dropP_perm hp)]
    have e1 := plen_erase hx
    omega
  have hkp : ∀ j, ¬ j = p → (keepP ps p 0 x)[j]? = ps[j]? := fun j hj => by unfold keepP; exact List.getElem?_set_ne (fun e => hj e.symm)
  have hkpp : (keepP ps p 0 x)[p]? = some (x.1, x.2.1, fitB x.2.2 0) := by unfold keepP; rw [List.getElem?_set_self hp]
  have hpz0 : pz p = 0 := (hE p _ hkpp).2.2.1.trans (fitB_len _ _)
  refine RQ.done (c := 0) (s := 0) rfl rfl rfl rfl ⟨_, rfl, ?_, ⟨(va_up pf p (pf (ps.length - 1))), (va_up px p (px (ps.length - 1))), (va_up pz p (pz (ps.length - 1))), (va_up pa p (pa (ps.length - 1))), hd, ⟨?_, ?_, ?_, ?_, ?_⟩, ?_, ?_⟩, ?_⟩
  · rw [hdl, hpl]
    exact (set_far (by decide)).trans ((set_far (by decide)).trans ((set_far (by decide)).trans ((set_far (by decide)).trans (get_set hm1))))
  · exact (set_far (by decide)).trans ((set_far (by decide)).trans ((set_far (by decide)).trans (get_set ((set_far (by decide)).trans hA.1))))
  · exact (set_far (by decide)).trans ((set_far (by decide)).trans (get_set ((set_far (by decide)).trans ((set_far (by decide)).trans hA.2.1))))
  · exact (set_far (by decide)).trans (get_set ((set_far (by decide)).trans ((set_far (by decide)).trans ((set_far (by decide)).trans hA.2.2.1))))
  · exact get_set ((set_far (by decide)).trans ((set_far (by decide)).trans ((set_far (by decide)).trans ((set_far (by decide)).trans hA.2.2.2.1))))
  · exact (set_far (by decide)).trans ((set_far (by decide)).trans ((set_far (by decide)).trans ((set_far (by decide)).trans ((set_far (by decide)).trans hA.2.2.2.2))))
  · intro j y hy
    obtain ⟨g1, g2⟩ := dropP_get hp hy
    rw [hpl]
    by_cases e : j = p
    · rw [if_pos e] at g2
      rw [e, up_at, up_at, up_at, up_at]
      exact hE _ y ((hkp _ (by omega)).trans g2)
    · rw [if_neg e] at g2
      rw [up_ne e, up_ne e, up_ne e, up_ne e]
      exact hE _ y ((hkp _ e).trans g2)
  · intro i j hi hj hij
    rw [hdl] at hi hj
    by_cases ei : i = p
    · have ej : ¬ j = p := fun e => hij (ei.trans e.symm)
      rw [ei, up_at, up_at, up_ne ej, up_ne ej]
      exact hD _ _ (by omega) (by omega) (by omega)
    · by_cases ej : j = p
      · rw [ej, up_at, up_at, up_ne ei, up_ne ei]
        exact hD _ _ (by omega) (by omega) (by omega)
      · rw [up_ne ei, up_ne ej, up_ne ei, up_ne ej]
        exact hD _ _ (by omega) (by omega) hij
  · intro a ha
    exact (set_far (by omega)).trans ((set_far (by omega)).trans ((set_far (by omega)).trans ((set_far (by omega)).trans ((set_far (by omega)).trans (f1 a (by omega))))))
