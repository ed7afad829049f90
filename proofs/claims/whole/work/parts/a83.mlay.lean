/-! ===== a write is laid into the pieces; reference; written by wip/gen/mlay.py ===== -/
/-- bytes with others laid over -/
def ovB (old : List Int8) (a : Nat) (bs : List Int8) : List Int8 := (old ++ List.replicate (a - old.length) 0).take a ++ (bs ++ old.drop (a + bs.length))
def bsI (tb : Nat → Int8) (s m : Nat) : List Int8 := (List.range m).map (fun t => tb (s + t))
theorem bsI_len {tb : Nat → Int8} {s m : Nat} : (bsI tb s m).length = m := by unfold bsI; rw [List.length_map, List.length_range]
theorem bsI_get {tb : Nat → Int8} {s m t : Nat} : (bsI tb s m)[t]? = if t < m then some (tb (s + t)) else none := by
  unfold bsI
  rw [List.getElem?_map]
  by_cases h : t < m
  · rw [if_pos h, List.getElem?_range h]
    rfl
  · rw [if_neg h, List.getElem?_eq_none (by rw [List.length_range]; omega)]
    rfl
theorem ovB_len {old bs : List Int8} {a : Nat} : (ovB old a bs).length = max old.length (a + bs.length) := by
  unfold ovB
  rw [List.length_append, List.length_append, List.length_take, List.length_append, List.length_replicate, List.length_drop]
  omega
theorem ovB_get {old bs : List Int8} {a t : Nat} : (ovB old a bs)[t]? = if t < a then (if t < old.length then old[t]? else some 0) else if t < a + bs.length then bs[t - a]? else old[t]? := by
  have hl : ((old ++ List.replicate (a - old.length) (0 : Int8)).take a).length = a := by rw [List.length_take, List.length_append, List.length_replicate]; omega
  unfold ovB
  by_cases h1 : t < a
  · rw [if_pos h1, List.getElem?_append_left (by omega), List.getElem?_take_of_lt h1]
    by_cases h2 : t < old.length
    · rw [if_pos h2, List.getElem?_append_left h2]
    · rw [if_neg h2, List.getElem?_append_right (by omega), List.getElem?_replicate, if_pos (by omega)]
  · rw [if_neg h1, List.getElem?_append_right (by omega), hl]
    by_cases h2 : t < a + bs.length
    · rw [if_pos h2, List.getElem?_append_left (by omega)]
    · rw [if_neg h2, List.getElem?_append_right (by omega), List.getElem?_drop, show a + bs.length + (t - a - bs.length) = t by omega]
theorem fitB_getE {b : List Int8} {n t : Nat} : (fitB b n)[t]? = if t < n then (if t < b.length then b[t]? else some 0) else none := by
  by_cases h : t < n
  · rw [if_pos h]
    unfold fitB
    by_cases h2 : t < b.length
    · rw [if_pos h2, List.getElem?_append_left (by rw [List.length_take]; omega), List.getElem?_take_of_lt h]
    · rw [if_neg h2, List.getElem?_append_right (by rw [List.length_take]; omega), List.getElem?_replicate, if_pos (by rw [List.length_take]; omega)]
  · rw [if_neg h, List.getElem?_eq_none (by rw [fitB_len]; omega)]
theorem ovB_fit {old bs : List Int8} {a n : Nat} (h1 : a + bs.length = n) (h2 : old.length ≤ n) : ovB (fitB old n) a bs = ovB old a bs := by
  refine List.ext_getElem? (fun t => ?_)
  rw [ovB_get, ovB_get, fitB_len, fitB_getE]
  by_cases c1 : t < a
  · rw [if_pos c1, if_pos c1, if_pos (by omega), if_pos (by omega)]
  · rw [if_neg c1, if_neg c1]
    by_cases c2 : t < a + bs.length
    · rw [if_pos c2, if_pos c2]
    · rw [if_neg c2, if_neg c2, if_neg (by omega), List.getElem?_eq_none (by omega)]
/-- the piece, as it was -/
def pcB (ps : List aPc) (p : Nat) : List Int8 := match ps[p]? with
  | some y => y.2.2
  | none => []
/-- a part of a write is laid -/
def layE (ps : List aPc) (f i a : Nat) (bs : List Int8) : List aPc := match pcI ps f i with
  | some p => ps.set p (f, i, ovB (pcB ps p) a bs)
  | none => ps ++ [(f, i, ovB [] a bs)]
def layK (e i : Nat) : Nat := min 512 (e - 512 * i)
def layN (tb : Nat → Int8) (f off e : Nat) (ps : List aPc) : Nat → List aPc
  | 0 => ps
  | m + 1 => layE (layN tb f off e ps m) f (off / 512 + m) (off - 512 * (off / 512 + m)) (bsI tb (512 * (off / 512 + m) - off) (layK e (off / 512 + m) - (off - 512 * (off / 512 + m))))
theorem layE_ok {ps : List aPc} {f i a : Nat} {bs : List Int8} (hok : ∀ x ∈ ps, PcOk x) (hf : f ≤ 200) (hi : i ≤ 32) (hb : a + bs.length ≤ 512) : ∀ x ∈ layE ps f i a bs, PcOk x := by
  intro x hx
  unfold layE at hx
  cases hj : pcI ps f i with
  | some p =>
    rw [hj] at hx
    obtain ⟨b, hb2⟩ := pcI_some hj
    rcases List.mem_or_eq_of_mem_set hx with h1 | h1
    · exact hok x h1
    · rw [h1]
      obtain ⟨-, -, o3⟩ := hok _ (List.mem_of_getElem? hb2)
      refine ⟨hf, hi, ?_⟩
      show (ovB (pcB ps p) a bs).length ≤ 512
      have e : pcB ps p = b := by unfold pcB; rw [hb2]
      rw [ovB_len, e]
      exact Nat.max_le.mpr ⟨o3, hb⟩
  | none =>
    rw [hj] at hx
    rcases List.mem_append.mp hx with h1 | h1
    · exact hok x h1
    · rw [List.mem_singleton.mp h1]
      refine ⟨hf, hi, ?_⟩
      show (ovB [] a bs).length ≤ 512
      rw [ovB_len]
      exact Nat.max_le.mpr ⟨Nat.zero_le _, hb⟩
/-- what is laid over the bytes held -/
theorem PcsIs.over {H : aH} {ps : List aPc} {p f i lo m : Nat} {base bs : List Int8} {pf px pz pa : Nat → Nat} {hd hd' : Nat → Int8} (hA : MPAt H pf px pz pa hd) (hE : ∀ j x, ps[j]? = some x → pf j = x.1 ∧ px j = x.2.1 ∧ pz j = x.2.2.length ∧ pa j + pz j ≤ plen ps ∧ ∀ t b, x.2.2[t]? = some b → hd (pa j + t) = b) (hD : ∀ i j, i < ps.length → j < ps.length → i ≠ j → pa i + pz i ≤ pa j ∨ pa j + pz j ≤ pa i) (hp : ps[p]? = some (f, i, base)) (hk : lo + bs.length ≤ base.length) (h1 : ∀ q, (q < pa p + lo ∨ pa p + lo + bs.length ≤ q) → hd' q = hd q) (h2 : ∀ t b, bs[t]? = some b → hd' (pa p + lo + t) = b) : PcsIs (H.set 222 (kB 40000 hd')) (ps.set p (f, i, ovB base lo bs)) := by
  have hpl := get_lt hp
  have hlen : (ovB base lo bs).length = base.length := by rw [ovB_len]; omega
  have hps := plen_set (y := (f, i, ovB base lo bs)) hp
  dsimp only at hps
  have hpe : plen (ps.set p (f, i, ovB base lo bs)) = plen ps := by omega
  obtain ⟨e1, e2, e3, e4, e5⟩ := hE _ _ hp
  dsimp only at e1 e2 e3 e5
  refine ⟨pf, px, pz, pa, hd', ⟨(set_far (by decide)).trans hA.1, (set_far (by decide)).trans hA.2.1, (set_far (by decide)).trans hA.2.2.1, (set_far (by decide)).trans hA.2.2.2.1, get_set hA.2.2.2.2⟩, fun j x hx => ?_, fun a b ha hb hab => hD a b (by rw [List.length_set] at ha; exact ha) (by rw [List.length_set] at hb; exact hb) hab⟩
  rw [hpe]
  by_cases hj : j = p
  · rw [hj, List.getElem?_set_self hpl] at hx
    rw [hj]
    cases hx
    refine ⟨e1, e2, e3.trans hlen.symm, e4, fun t b ht => ?_⟩
    dsimp only at ht
    have htl := get_lt ht
    rw [ovB_get] at ht
    by_cases c1 : t < lo
    · rw [if_pos c1, if_pos (by omega)] at ht
      rw [h1 _ (by omega)]
      exact e5 t b ht
    · rw [if_neg c1] at ht
      by_cases c2 : t < lo + bs.length
      · rw [if_pos c2] at ht
        have := h2 _ _ ht
        rw [show pa p + lo + (t - lo) = pa p + t by omega] at this
        exact this
      · rw [if_neg c2] at ht
        rw [h1 _ (by omega)]
        exact e5 t b ht
  · rw [List.getElem?_set_ne (fun e => hj e.symm)] at hx
    obtain ⟨y1, y2, y3, y4, y5⟩ := hE _ _ hx
    have hd9 := hD p j hpl (get_lt hx) (fun e => hj e.symm)
    refine ⟨y1, y2, y3, y4, fun t b ht => ?_⟩
    have htl := get_lt ht
    rw [h1 _ (by omega)]
    exact y5 t b ht
/-- a new piece -/
theorem PcsIs.push {H : aH} {ps : List aPc} {f i : Nat} {pf px pz pa : Nat → Nat} {hd : Nat → Int8} {H' : aH} (hE : ∀ j x, ps[j]? = some x → pf j = x.1 ∧ px j = x.2.1 ∧ pz j = x.2.2.length ∧ pa j + pz j ≤ plen ps ∧ ∀ t b, x.2.2[t]? = some b → hd (pa j + t) = b) (hD : ∀ i j, i < ps.length → j < ps.length → i ≠ j → pa i + pz i ≤ pa j ∨ pa j + pz j ≤ pa i) (hA : MPAt H' (va_up pf ps.length f) (va_up px ps.length i) (va_up pz ps.length 0) (va_up pa ps.length (plen ps)) hd) : PcsIs H' (ps ++ [(f, i, [])]) := by
  have hpe : plen (ps ++ [(f, i, [])]) = plen ps := by unfold plen; rw [List.map_append, List.sum_append]; rfl
  have hb : ∀ j, j < ps.length → pa j + pz j ≤ plen ps := fun j hj => by
    obtain ⟨y, hy⟩ := lt_get hj
    exact (hE j y hy).2.2.2.1
  refine ⟨_, _, _, _, _, hA, fun j x hx => ?_, fun a b ha hb2 hab => ?_⟩
  · rw [hpe]
    have hjl := get_lt hx
    rw [List.length_append] at hjl
    change j < ps.length + 1 at hjl
    by_cases hj : j = ps.length
    · rw [hj, List.getElem?_append_right (Nat.le_refl _), Nat.sub_self] at hx
      cases hx
      rw [hj, up_at, up_at, up_at, up_at]
      exact ⟨rfl, rfl, rfl, by omega, fun t b ht => by cases ht⟩
    · rw [List.getElem?_append_left (by omega)] at hx
      rw [up_ne hj, up_ne hj, up_ne hj, up_ne hj]
      exact hE j x hx
  · rw [List.length_append] at ha hb2
    change a < ps.length + 1 at ha
    change b < ps.length + 1 at hb2
    by_cases c1 : a = ps.length
    · have c2 : ¬ b = ps.length := by omega
      have := hb b (by omega)
      rw [c1, up_at, up_at, up_ne c2, up_ne c2]
      omega
    · by_cases c2 : b = ps.length
      · have := hb a (by omega)
        rw [c2, up_at, up_at, up_ne c1, up_ne c1]
        omega
      · rw [up_ne c1, up_ne c1, up_ne c2, up_ne c2]
        exact hD a b (by omega) (by omega) hab
theorem rq_layf {sc : Nat × (Nat → Int32)} {d : Nat} {H : aH} {fa li dn cw cl tp rs pr ve us : Int32} {ba bo : Nat} {ps : List aPc} {f off n i p k lo : Nat} {base : List Int8} {tb : Nat → Int8} {Q : _ → Prop} (hm : H[195]? = some (kO 12 (mfs fa li dn cw cl tp rs pr ve us (nI ps.length) (nI (plen ps)) ba bo))) (h : PcsIs H ps) (ht : H[196]? = some (kB 2000 tb)) (hp : ps[p]? = some (f, i, base)) (hpi : ps.length ≤ 1300) (hhu : plen ps ≤ 40000) (hlk : lo ≤ k) (hkb : k ≤ base.length) (hk5 : k ≤ 512) (ho1 : off ≤ 512 * i + lo) (ho2 : 512 * i + k - off ≤ 2000) (hi : i ≤ 40) (K : ∀ H', H'[195]? = H[195]? → PcsIs H' (ps.set p (f, i, ovB base lo (bsI tb (512 * i + lo - off) (k - lo)))) → (∀ a, a ≠ 222 → H'[a]? = H[a]?) → RQ sc d mr_325 194 [(7, .int (nI k)), (0, .ref 196), (1, .int (nI f)), (2, .int (nI off)), (3, .int (nI n)), (4, .int (nI i)), (5, .int (nI p)), (6, .int (nI k))] [] H' 0 0 Q) : RQ sc d mr_325 150 [(7, .int (nI lo)), (0, .ref 196), (1, .int (nI f)), (2, .int (nI off)), (3, .int (nI n)), (4, .int (nI i)), (5, .int (nI p)), (6, .int (nI k))] [] H 0 0 Q := by
  obtain ⟨pf, px, pz, pa, hd, hA, hE, hD⟩ := h
  obtain ⟨e1, e2, e3, e4, e5⟩ := hE _ _ hp
  dsimp only at e3
  have hpl := get_lt hp
  refine RQ.while (S := Nat) (pc := 150) (fun j H' => lo ≤ j ∧ j ≤ k ∧ H' = (H.set 222 (kB 40000 (cpy tb (512 * i + lo - off) hd (pa p + lo) (j - lo))))) (fun j => [(7, .int (nI j)), (0, .ref 196), (1, .int (nI f)), (2, .int (nI off)), (3, .int (nI n)), (4, .int (nI i)), (5, .int (nI p)), (6, .int (nI k))]) (fun j => k - j) ?_ lo H ⟨Nat.le_refl _, hlk, by rw [Nat.sub_self, cpy_0, set_self hA.2.2.2.2]⟩
  rintro j H1 ⟨hj1, hj2, e⟩ ih
  rw [e]
  by_cases hlt : j < k
  ·
    refine RQ.blk 2 (pc' := 154) (lv' := [(7, .int (nI j)), (0, .ref 196), (1, .int (nI f)), (2, .int (nI off)), (3, .int (nI n)), (4, .int (nI i)), (5, .int (nI p)), (6, .int (nI k))]) (st' := [.int (nI k), .int (nI j)]) (H' := _) (kc' := 0) (ks' := 0) rfl ?_
    refine RQ.brF rfl rfl rfl (cF_ge j k) ?_
    refine RQ.blk 1 (pc' := 158) (lv' := [(7, .int (nI j)), (0, .ref 196), (1, .int (nI f)), (2, .int (nI off)), (3, .int (nI n)), (4, .int (nI i)), (5, .int (nI p)), (6, .int (nI k))]) (st' := [.ref 196]) (H' := _) (kc' := 0) (ks' := 0) rfl ?_
    refine RQ.get (ci := 12) rfl ((set_far (by decide)).trans hm) rfl rfl ?_
    refine RQ.blk 1 (pc' := 162) (lv' := [(7, .int (nI j)), (0, .ref 196), (1, .int (nI f)), (2, .int (nI off)), (3, .int (nI n)), (4, .int (nI i)), (5, .int (nI p)), (6, .int (nI k))]) (st' := [.ref 196, .ref 223]) (H' := _) (kc' := 0) (ks' := 0) rfl ?_
    refine RQ.get (ci := 12) rfl ((set_far (by decide)).trans hm) rfl rfl ?_
    refine RQ.blk 1 (pc' := 167) (lv' := [(7, .int (nI j)), (0, .ref 196), (1, .int (nI f)), (2, .int (nI off)), (3, .int (nI n)), (4, .int (nI i)), (5, .int (nI p)), (6, .int (nI k))]) (st' := [.int (nI p), .ref 222, .ref 223]) (H' := _) (kc' := 0) (ks' := 0) rfl ?_
    refine RQ.ialdN (j := p) rfl ((set_far (by decide)).trans hA.2.2.2.1) (by omega) (by decide) ?_
    refine RQ.blk 2 (pc' := 171) (lv' := [(7, .int (nI j)), (0, .ref 196), (1, .int (nI f)), (2, .int (nI off)), (3, .int (nI n)), (4, .int (nI i)), (5, .int (nI p)), (6, .int (nI k))]) (st' := [.int (nI (pa p) + nI j), .ref 223]) (H' := _) (kc' := 0) (ks' := 0) rfl ?_
    rw [show (nI (pa p) + nI j : Int32) = nI (pa p + j) from nI_add (pa p) j]
    refine RQ.blk 1 (pc' := 172) (lv' := [(7, .int (nI j)), (0, .ref 196), (1, .int (nI f)), (2, .int (nI off)), (3, .int (nI n)), (4, .int (nI i)), (5, .int (nI p)), (6, .int (nI k))]) (st' := [.ref 196, .int (nI (pa p + j)), .ref 223]) (H' := _) (kc' := 0) (ks' := 0) rfl ?_
    refine RQ.get (ci := 12) rfl ((set_far (by decide)).trans hm) rfl rfl ?_
    refine RQ.blk 3 (pc' := 181) (lv' := [(7, .int (nI j)), (0, .ref 196), (1, .int (nI f)), (2, .int (nI off)), (3, .int (nI n)), (4, .int (nI i)), (5, .int (nI p)), (6, .int (nI k))]) (st' := [.int (512 * nI i), .ref 197, .int (nI (pa p + j)), .ref 223]) (H' := _) (kc' := 0) (ks' := 0) rfl ?_
    rw [show (512 * nI i : Int32) = nI (512 * i) from pk_mul 512 i]
    refine RQ.blk 2 (pc' := 184) (lv' := [(7, .int (nI j)), (0, .ref 196), (1, .int (nI f)), (2, .int (nI off)), (3, .int (nI n)), (4, .int (nI i)), (5, .int (nI p)), (6, .int (nI k))]) (st' := [.int (nI (512 * i) + nI j), .ref 197, .int (nI (pa p + j)), .ref 223]) (H' := _) (kc' := 0) (ks' := 0) rfl ?_
    rw [show (nI (512 * i) + nI j : Int32) = nI (512 * i + j) from nI_add (512 * i) j]
    refine RQ.blk 2 (pc' := 186) (lv' := [(7, .int (nI j)), (0, .ref 196), (1, .int (nI f)), (2, .int (nI off)), (3, .int (nI n)), (4, .int (nI i)), (5, .int (nI p)), (6, .int (nI k))]) (st' := [.int (nI (512 * i + j) - nI off), .ref 197, .int (nI (pa p + j)), .ref 223]) (H' := _) (kc' := 0) (ks' := 0) rfl ?_
    rw [show (nI (512 * i + j) - nI off : Int32) = nI ((512 * i + j) - off) from pk_sub (a := (512 * i + j)) (b := off) (by omega)]
    refine RQ.baldN (j := (512 * i + j - off)) rfl ((set_far (by decide)).trans ht) (by omega) (by decide) ?_
    refine RQ.bastN (j := (pa p + j)) rfl (get_set hA.2.2.2.2) (by omega) (by decide) ?_
    rw [set_set, Int8.toInt8_toInt32]
    rw [show va_up (cpy tb (512 * i + lo - off) hd (pa p + lo) (j - lo)) (pa p + j) (tb (512 * i + j - off)) = cpy tb (512 * i + lo - off) hd (pa p + lo) (j + 1 - lo) by rw [show j + 1 - lo = j - lo + 1 by omega, ← cpy_up', show pa p + lo + (j - lo) = pa p + j by omega, show (512 * i + lo - off) + (j - lo) = 512 * i + j - off by omega]]
    refine RQ.blk 1 (pc' := 191) (lv' := [(7, .int (nI j + 1)), (0, .ref 196), (1, .int (nI f)), (2, .int (nI off)), (3, .int (nI n)), (4, .int (nI i)), (5, .int (nI p)), (6, .int (nI k))]) (st' := []) (H' := _) (kc' := 0) (ks' := 0) rfl ?_
    rw [show (nI j + 1 : Int32) = nI (j + 1) from nI_add j 1]
    refine RQ.blk 1 (pc' := 150) (lv' := [(7, .int (nI (j + 1))), (0, .ref 196), (1, .int (nI f)), (2, .int (nI off)), (3, .int (nI n)), (4, .int (nI i)), (5, .int (nI p)), (6, .int (nI k))]) (st' := []) (H' := _) (kc' := 0) (ks' := 0) rfl ?_
    exact ih (j + 1) _ ⟨by omega, by omega, rfl⟩ (by omega)
  ·
    refine RQ.blk 2 (pc' := 154) (lv' := [(7, .int (nI j)), (0, .ref 196), (1, .int (nI f)), (2, .int (nI off)), (3, .int (nI n)), (4, .int (nI i)), (5, .int (nI p)), (6, .int (nI k))]) (st' := [.int (nI k), .int (nI j)]) (H' := _) (kc' := 0) (ks' := 0) rfl ?_
    refine RQ.brT rfl rfl rfl (cT_ge j k) ?_
    have hjk : j = k := by omega
    rw [hjk]
    refine K _ (set_far (by decide)) (PcsIs.over (m := 0) hA hE hD hp (by rw [bsI_len]; omega) (fun q hq => cpy_out (by rw [bsI_len] at hq; omega)) (fun t b hb => ?_)) (fun a ha => set_far ha)
    rw [bsI_get] at hb
    by_cases c : t < k - lo
    · rw [if_pos c] at hb
      rw [cpy_in c]
      exact Option.some.inj hb
    · rw [if_neg c] at hb
      cases hb
