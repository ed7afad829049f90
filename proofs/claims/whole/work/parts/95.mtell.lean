/-! ===== what a key has to a transaction; reference; written by wip/gen/mtell.py ===== -/
theorem bestV_none {bf : Nat → Int8} {ko kn vm : Nat → Nat} {key : List Nat} {m : Nat} : ∀ (n : Nat), bestV bf ko kn vm key m n = none → ∀ v, v < n → ¬ (sl bf (ko v) (kn v) = key ∧ vm v ≤ m)
  | 0, _, v, hv => absurd hv (Nat.not_lt_zero v)
  | n + 1, h, v, hv => by
    rw [bestV] at h
    split at h
    · cases h
    · next c =>
      by_cases e : v = n
      · rintro ⟨hk, hm⟩
        rw [e] at hk hm
        refine c ⟨hm, hk, ?_⟩
        rw [h]
        rfl
      · exact bestV_none n h v (by omega)
theorem bestV_some {bf : Nat → Int8} {ko kn vm : Nat → Nat} {key : List Nat} {m : Nat} : ∀ (n b : Nat), bestV bf ko kn vm key m n = some b → b < n ∧ vm b ≤ m ∧ sl bf (ko b) (kn b) = key ∧ ∀ v, v < n → sl bf (ko v) (kn v) = key → vm v ≤ m → vm v ≤ vm b
  | 0, b, h => by cases h
  | n + 1, b, h => by
    rw [bestV] at h
    split at h
    · next c =>
      have e := Option.some.inj h
      subst e
      refine ⟨by omega, c.1, c.2.1, fun v hv hk hm => ?_⟩
      by_cases e : v = n
      · rw [e]; exact Nat.le_refl _
      · cases hb : bestV bf ko kn vm key m n with
        | none =>
          exact absurd ⟨hk, hm⟩ (bestV_none n hb v (by omega))
        | some b =>
          have h1 := (bestV_some n b hb).2.2.2 v (by omega) hk hm
          have h2 := c.2.2
          rw [hb] at h2
          have h3 : vm b < vm n := of_decide_eq_true h2
          omega
    · next c =>
      obtain ⟨h1, h2, h3, h4⟩ := bestV_some n b h
      refine ⟨by omega, h2, h3, fun v hv hk hm => ?_⟩
      by_cases e : v = n
      · rw [e] at hk hm ⊢
        refine Nat.le_of_not_lt (fun hlt => c ⟨hm, hk, ?_⟩)
        rw [h]
        exact decide_eq_true hlt
      · exact h4 v (by omega) hk hm
theorem best_seen {bf : Nat → Int8} {ko kn vo : Nat → Nat} {vz : Nat → Option Nat} {vm : Nat → Nat} {ms : List aMV} {key : List Nat} {m : Nat} (h : MVLay bf ko kn vo vz vm ms) (h1 : OneM ms) : seenM ms key m = (bestV bf ko kn vm key m ms.length).bind (fun v => ms[v]?) := by
  cases hb : bestV bf ko kn vm key m ms.length with
  | none =>
    refine seenM_none.mpr (fun w hw hk hm => ?_)
    obtain ⟨v, hv⟩ := List.mem_iff_getElem?.mp hw
    obtain ⟨k1, k2, k3, k4⟩ := h.key hv
    exact bestV_none _ hb v (get_lt hv) ⟨k1.trans hk, by omega⟩
  | some b =>
    obtain ⟨b1, b2, b3, b4⟩ := bestV_some _ _ hb
    obtain ⟨w, hw⟩ := lt_get b1
    obtain ⟨k1, k2, k3, k4⟩ := h.key hw
    show _ = ms[b]?
    rw [hw]
    refine (seenM_some h1).mpr ⟨List.mem_of_getElem? hw, k1.symm.trans b3, stK_iff.mpr ⟨by omega, fun c hc hab => ?_⟩⟩
    obtain ⟨u, hu, e1, e2⟩ := mem_km2.mp hc
    obtain ⟨x, hx⟩ := List.mem_iff_getElem?.mp hu
    obtain ⟨x1, x2, x3, x4⟩ := h.key hx
    refine Nat.lt_of_not_le (fun hcm => ?_)
    have := b4 x (get_lt hx) (by rw [x1, e1, ← k1, b3]) (by omega)
    omega
theorem rc_mrowOfL {sc : Nat × (Nat → Int32)} {a na j m d t : Nat} {H : aH} {ro fi wk wn : Nat → Nat} {wz : Nat → Option Nat} {wb : Nat → Int8} {fa li dn cw cl tp rs pr ve us pi hu : Int32} {ba bo : Nat} {g : Nat → Int8} {ws : List aE} (hm : H[195]? = some (kO 12 (mfs fa li dn cw cl tp rs pr ve us pi hu ba bo))) (h : MRAt H ro fi wk wn wz wb) (hT : TxL ro fi wk wn wz wb t ws) (ht : t < 8) (h1 : H[a]? = some (kB na g)) (hna : na < 2 ^ 30) (hj : j + m ≤ na) : RC sc (d + 1) mr_285 [.ref 196, .int (nI t), .ref (a + 1), .int (nI j), .int (nI m)] H (.inl (some (.int (lI ((ixK ws (sl g j m)).map (fun i => 32 * t + i)))))) H 0 0 := by
  have hk := hT.ok ht
  have hro := hT.1
  cases hix : ixK ws (sl g j m) with
  | none =>
    refine rc_mrowOf_none hm h hk h1 hna hj (fun q hq e => ?_)
    obtain ⟨w, hw⟩ := lt_get (l := ws) (i := q) (by omega)
    exact ixK_none hix q w hw ((hT.key hw).symm.trans e)
  | some i =>
    obtain ⟨⟨e0, hi0, he0⟩, hbef⟩ := ixK_some hix
    refine rc_mrowOf_some hm h hk h1 hna hj (by rw [hro]; exact get_lt hi0) ((hT.key hi0).trans he0) (fun q hq e => ?_)
    obtain ⟨w, hw⟩ := lt_get (l := ws) (i := q) (by have := get_lt hi0; omega)
    exact hbef q w hq hw ((hT.key hw).symm.trans e)
theorem rq_tellW {sc : Nat × (Nat → Int32)} {d fr n r : Nat} {H : aH} {fa li dn cw cl tp rs pr ve us pi hu y : Int32} {ba bo : Nat} {wb g0 : Nat → Int8} {Q : tO × aH × Nat × Nat → Prop} (hm : H[195]? = some (kO 12 (mfs fa li dn cw cl tp rs pr ve us pi hu ba bo))) (h2 : H[212]? = some (kB 32000 wb)) (h197 : H[197]? = some (kB 1000 g0)) (hn : n ≤ 1000) (hf : fr + n ≤ 32000) (hr : r < 256)
    (kq : RQ sc d mr_290 169 [(10, .int (nI n)), (9, .int (nI fr)), (8, .int (nI n)), (7, .int y), (6, .int (nI r)), (0, .ref 196)] [] (H.set 197 (kB 1000 (cpy wb fr g0 0 n))) 0 0 Q) : RQ sc d mr_290 121 [(10, .int (nI 0)), (9, .int (nI fr)), (8, .int (nI n)), (7, .int y), (6, .int (nI r)), (0, .ref 196)] [] H 0 0 Q := by
  refine RQ.while (S := Nat) (pc := 121) (fun k H' => k ≤ n ∧ H' = (H.set 197 (kB 1000 (cpy wb fr g0 0 k)))) (fun k => [(10, .int (nI k)), (9, .int (nI fr)), (8, .int (nI n)), (7, .int y), (6, .int (nI r)), (0, .ref 196)]) (fun k => n - k) ?_ 0 H ⟨Nat.zero_le _, by rw [cpy_0, set_self h197]⟩
  rintro k H1 ⟨hk, e⟩ ih
  rw [e]
  by_cases hlt : k < n
  ·
    refine RQ.blk 2 (pc' := 125) (lv' := [(10, .int (nI k)), (9, .int (nI fr)), (8, .int (nI n)), (7, .int y), (6, .int (nI r)), (0, .ref 196)]) (st' := [.int (nI n), .int (nI k)]) (H' := _) (kc' := 0) (ks' := 0) rfl ?_
    refine RQ.brF rfl rfl rfl (cF_ge k n) ?_
    refine RQ.blk 1 (pc' := 129) (lv' := [(10, .int (nI k)), (9, .int (nI fr)), (8, .int (nI n)), (7, .int y), (6, .int (nI r)), (0, .ref 196)]) (st' := [.ref 196]) (H' := _) (kc' := 0) (ks' := 0) rfl ?_
    refine RQ.get (ci := 12) rfl ((set_far (by decide)).trans hm) rfl rfl ?_
    refine RQ.blk 2 (pc' := 136) (lv' := [(10, .int (nI k)), (9, .int (nI fr)), (8, .int (nI n)), (7, .int y), (6, .int (nI r)), (0, .ref 196)]) (st' := [.int (nI r), .int (nI k), .ref 198]) (H' := _) (kc' := 0) (ks' := 0) rfl ?_
    refine RQ.brF rfl rfl rfl (cF_lt r 0) ?_
    refine RQ.blk 1 (pc' := 140) (lv' := [(10, .int (nI k)), (9, .int (nI fr)), (8, .int (nI n)), (7, .int y), (6, .int (nI r)), (0, .ref 196)]) (st' := [.ref 196, .int (nI k), .ref 198]) (H' := _) (kc' := 0) (ks' := 0) rfl ?_
    refine RQ.get (ci := 12) rfl ((set_far (by decide)).trans hm) rfl rfl ?_
    refine RQ.blk 3 (pc' := 148) (lv' := [(10, .int (nI k)), (9, .int (nI fr)), (8, .int (nI n)), (7, .int y), (6, .int (nI r)), (0, .ref 196)]) (st' := [.int (nI fr + nI k), .ref 213, .int (nI k), .ref 198]) (H' := _) (kc' := 0) (ks' := 0) rfl ?_
    rw [show (nI fr + nI k : Int32) = nI (fr + k) from nI_add fr k]
    refine RQ.baldN (j := fr + k) rfl ((set_far (by omega)).trans h2) (by omega) (by decide) ?_
    refine RQ.blk 1 (pc' := 162) (lv' := [(10, .int (nI k)), (9, .int (nI fr)), (8, .int (nI n)), (7, .int y), (6, .int (nI r)), (0, .ref 196)]) (st' := [.int ((wb (fr + k)).toInt32), .int (nI k), .ref 198]) (H' := _) (kc' := 0) (ks' := 0) rfl ?_
    refine RQ.bastN (j := k) rfl (get_set h197) (by omega) (by decide) ?_
    rw [set_set, Int8.toInt8_toInt32]
    rw [show va_up (cpy wb fr g0 0 k) k (wb (fr + k)) = cpy wb fr g0 0 (k + 1) by rw [← cpy_up', Nat.zero_add]]
    refine RQ.blk 1 (pc' := 166) (lv' := [(10, .int (nI k + 1)), (9, .int (nI fr)), (8, .int (nI n)), (7, .int y), (6, .int (nI r)), (0, .ref 196)]) (st' := []) (H' := _) (kc' := 0) (ks' := 0) rfl ?_
    rw [show (nI k + 1 : Int32) = nI (k + 1) from nI_add k 1]
    refine RQ.blk 1 (pc' := 121) (lv' := [(10, .int (nI (k + 1))), (9, .int (nI fr)), (8, .int (nI n)), (7, .int y), (6, .int (nI r)), (0, .ref 196)]) (st' := []) (H' := _) (kc' := 0) (ks' := 0) rfl ?_
    exact ih (k + 1) _ ⟨by omega, rfl⟩ (by omega)
  · have e2 : k = n := by omega
    rw [e2]
    refine RQ.blk 2 (pc' := 125) (lv' := [(10, .int (nI n)), (9, .int (nI fr)), (8, .int (nI n)), (7, .int y), (6, .int (nI r)), (0, .ref 196)]) (st' := [.int (nI n), .int (nI n)]) (H' := _) (kc' := 0) (ks' := 0) rfl ?_
    refine RQ.brT rfl rfl rfl (cT_ge n n) ?_
    exact kq
theorem rq_tellV {sc : Nat × (Nat → Int32)} {d fr n : Nat} {H : aH} {fa li dn cw cl tp rs pr ve us pi hu y : Int32} {ba bo : Nat} {bf g0 : Nat → Int8} {Q : tO × aH × Nat × Nat → Prop} (hm : H[195]? = some (kO 12 (mfs fa li dn cw cl tp rs pr ve us pi hu ba bo))) (h2 : H[ba]? = some (kB 48000 bf)) (hba : ba = 203 ∨ ba = 204) (h197 : H[197]? = some (kB 1000 g0)) (hn : n ≤ 1000) (hf : fr + n ≤ 48000)
    (kq : RQ sc d mr_290 169 [(10, .int (nI n)), (9, .int (nI fr)), (8, .int (nI n)), (7, .int y), (6, .int (-1)), (0, .ref 196)] [] (H.set 197 (kB 1000 (cpy bf fr g0 0 n))) 0 0 Q) : RQ sc d mr_290 121 [(10, .int (nI 0)), (9, .int (nI fr)), (8, .int (nI n)), (7, .int y), (6, .int (-1)), (0, .ref 196)] [] H 0 0 Q := by
  refine RQ.while (S := Nat) (pc := 121) (fun k H' => k ≤ n ∧ H' = (H.set 197 (kB 1000 (cpy bf fr g0 0 k)))) (fun k => [(10, .int (nI k)), (9, .int (nI fr)), (8, .int (nI n)), (7, .int y), (6, .int (-1)), (0, .ref 196)]) (fun k => n - k) ?_ 0 H ⟨Nat.zero_le _, by rw [cpy_0, set_self h197]⟩
  rintro k H1 ⟨hk, e⟩ ih
  rw [e]
  by_cases hlt : k < n
  ·
    refine RQ.blk 2 (pc' := 125) (lv' := [(10, .int (nI k)), (9, .int (nI fr)), (8, .int (nI n)), (7, .int y), (6, .int (-1)), (0, .ref 196)]) (st' := [.int (nI n), .int (nI k)]) (H' := _) (kc' := 0) (ks' := 0) rfl ?_
    refine RQ.brF rfl rfl rfl (cF_ge k n) ?_
    refine RQ.blk 1 (pc' := 129) (lv' := [(10, .int (nI k)), (9, .int (nI fr)), (8, .int (nI n)), (7, .int y), (6, .int (-1)), (0, .ref 196)]) (st' := [.ref 196]) (H' := _) (kc' := 0) (ks' := 0) rfl ?_
    refine RQ.get (ci := 12) rfl ((set_far (by decide)).trans hm) rfl rfl ?_
    refine RQ.blk 2 (pc' := 136) (lv' := [(10, .int (nI k)), (9, .int (nI fr)), (8, .int (nI n)), (7, .int y), (6, .int (-1)), (0, .ref 196)]) (st' := [.int (-1), .int (nI k), .ref 198]) (H' := _) (kc' := 0) (ks' := 0) rfl ?_
    refine RQ.brT rfl rfl rfl (by decide) ?_
    refine RQ.blk 1 (pc' := 153) (lv' := [(10, .int (nI k)), (9, .int (nI fr)), (8, .int (nI n)), (7, .int y), (6, .int (-1)), (0, .ref 196)]) (st' := [.ref 196, .int (nI k), .ref 198]) (H' := _) (kc' := 0) (ks' := 0) rfl ?_
    refine RQ.get (ci := 12) rfl ((set_far (by decide)).trans hm) rfl rfl ?_
    refine RQ.blk 3 (pc' := 161) (lv' := [(10, .int (nI k)), (9, .int (nI fr)), (8, .int (nI n)), (7, .int y), (6, .int (-1)), (0, .ref 196)]) (st' := [.int (nI fr + nI k), .ref (ba + 1), .int (nI k), .ref 198]) (H' := _) (kc' := 0) (ks' := 0) rfl ?_
    rw [show (nI fr + nI k : Int32) = nI (fr + k) from nI_add fr k]
    refine RQ.baldN (j := fr + k) rfl ((set_far (by omega)).trans h2) (by omega) (by decide) ?_
    refine RQ.bastN (j := k) rfl (get_set h197) (by omega) (by decide) ?_
    rw [set_set, Int8.toInt8_toInt32]
    rw [show va_up (cpy bf fr g0 0 k) k (bf (fr + k)) = cpy bf fr g0 0 (k + 1) by rw [← cpy_up', Nat.zero_add]]
    refine RQ.blk 1 (pc' := 166) (lv' := [(10, .int (nI k + 1)), (9, .int (nI fr)), (8, .int (nI n)), (7, .int y), (6, .int (-1)), (0, .ref 196)]) (st' := []) (H' := _) (kc' := 0) (ks' := 0) rfl ?_
    rw [show (nI k + 1 : Int32) = nI (k + 1) from nI_add k 1]
    refine RQ.blk 1 (pc' := 121) (lv' := [(10, .int (nI (k + 1))), (9, .int (nI fr)), (8, .int (nI n)), (7, .int y), (6, .int (-1)), (0, .ref 196)]) (st' := []) (H' := _) (kc' := 0) (ks' := 0) rfl ?_
    exact ih (k + 1) _ ⟨by omega, rfl⟩ (by omega)
  · have e2 : k = n := by omega
    rw [e2]
    refine RQ.blk 2 (pc' := 125) (lv' := [(10, .int (nI n)), (9, .int (nI fr)), (8, .int (nI n)), (7, .int y), (6, .int (-1)), (0, .ref 196)]) (st' := [.int (nI n), .int (nI n)]) (H' := _) (kc' := 0) (ks' := 0) rfl ?_
    refine RQ.brT rfl rfl rfl (cT_ge n n) ?_
    exact kq
theorem ri_tell0 {sc : Nat × (Nat → Int32)} {d t a na j m : Nat} {H : aH} {fa li dn cw cl tp rs pr us pi hu : Int32} {ba bo : Nat} {bf : Nat → Int8} {ko kn vo : Nat → Nat} {vz : Nat → Option Nat} {vm : Nat → Nat} {ms : List aMV} {ro fi wk wn : Nat → Nat} {wz : Nat → Option Nat} {wb : Nat → Int8} {se : Nat → Nat} {ws : List aE} {g0 g : Nat → Int8} (hm : H[195]? = some (kO 12 (mfs fa li dn cw cl tp rs pr (nI ms.length) us pi hu ba bo))) (h : MVAt H ba bf ko kn vo vz vm) (hl : MVLay bf ko kn vo vz vm ms) (hk : MSOk ms) (hba : ba = 203 ∨ ba = 204) (hR : MRAt H ro fi wk wn wz wb) (hT : TxL ro fi wk wn wz wb t ws) (ht : t < 8) (h6 : H[206]? = some (kI 8 (fun j => nI (se j)))) (hse : se t < 2 ^ 31) (h1 : H[a]? = some (kB na g)) (hna : na < 2 ^ 30) (hj : j + m ≤ na) (h197 : H[197]? = some (kB 1000 g0)) (h1M : OneM ms) (hws : ∀ e ∈ ws, (e.2.getD []).length ≤ 1000) (hms : ∀ w ∈ ms, (w.2.2.getD []).length ≤ 1000) : RI sc (d + 2) mr_290 [.ref 196, .int (nI t), .ref (a + 1), .int (nI j), .int (nI m), .int 0] H (fun x H' => ∃ rv, rv = getW ws (lookM ms (sl g j m) (se t)) (sl g j m) ∧ x = lI (rv.map List.length) ∧ H' = H) := by
  refine RI.of ?_
  refine RQ.blk 5 (pc' := 6) (lv' := [(0, .ref 196), (1, .int (nI t)), (2, .ref (a + 1)), (3, .int (nI j)), (4, .int (nI m)), (5, .int 0)]) (st' := [.int (nI m), .int (nI j), .ref (a + 1), .int (nI t), .ref 196]) (H' := _) (kc' := 0) (ks' := 0) rfl ?_
  refine RQ.call (v := some (.int (lI ((ixK ws (sl g j m)).map (fun i => 32 * t + i))))) (st' := []) rfl rfl rfl rfl rfl rfl (args_v [.int (nI m), .int (nI j), .ref (a + 1), .int (nI t)] [] rfl rfl (Nat.le_of_ble_eq_true rfl) rfl hm (Nat.le_of_ble_eq_true rfl)) (rc_mrowOfL hm hR hT ht h1 hna hj) ?_
  refine RQ.blk 2 (pc' := 13) (lv' := [(6, .int (lI ((ixK ws (sl g j m)).map (fun i => 32 * t + i)))), (0, .ref 196), (1, .int (nI t)), (2, .ref (a + 1)), (3, .int (nI j)), (4, .int (nI m)), (5, .int 0)]) (st' := [.int (lI ((ixK ws (sl g j m)).map (fun i => 32 * t + i)))]) (H' := _) (kc' := 0) (ks' := 0) rfl ?_
  cases hix : ixK ws (sl g j m) with
  | none =>
    rw [show lI (Option.map (fun i => 32 * t + i) none) = -1 from rfl]
    refine RQ.brF rfl rfl rfl (by decide) ?_
    refine RQ.blk 5 (pc' := 22) (lv' := [(6, .int (-1)), (0, .ref 196), (1, .int (nI t)), (2, .ref (a + 1)), (3, .int (nI j)), (4, .int (nI m)), (5, .int 0)]) (st' := [.ref 196, .int (nI m), .int (nI j), .ref (a + 1), .ref 196]) (H' := _) (kc' := 0) (ks' := 0) rfl ?_
    refine RQ.get (ci := 12) rfl hm rfl rfl ?_
    refine RQ.blk 1 (pc' := 26) (lv' := [(6, .int (-1)), (0, .ref 196), (1, .int (nI t)), (2, .ref (a + 1)), (3, .int (nI j)), (4, .int (nI m)), (5, .int 0)]) (st' := [.int (nI t), .ref 207, .int (nI m), .int (nI j), .ref (a + 1), .ref 196]) (H' := _) (kc' := 0) (ks' := 0) rfl ?_
    refine RQ.ialdN (j := t) rfl h6 (by omega) (by decide) ?_
    refine RQ.call (v := some (.int (lI (bestV bf ko kn vm (sl g j m) (se t) ms.length)))) (st' := []) rfl rfl rfl rfl rfl rfl (args_v [.int (nI (se t)), .int (nI m), .int (nI j), .ref (a + 1)] [] rfl rfl (Nat.le_of_ble_eq_true rfl) rfl hm (Nat.le_of_ble_eq_true rfl)) (rc_mversionAt hm h (hl.ok hk) h1 hna hj hse) ?_
    have hsn := best_seen (key := (sl g j m)) (m := se t) hl h1M
    cases hbest : bestV bf ko kn vm (sl g j m) (se t) ms.length with
    | none =>
      rw [show lI none = -1 from rfl]
      have hgW : getW ws (lookM ms (sl g j m) (se t)) (sl g j m) = none := by unfold getW lookM; rw [hix, hsn, hbest]; rfl
      refine RQ.blk 3 (pc' := 38) (lv' := [(7, .int (-1)), (6, .int (-1)), (0, .ref 196), (1, .int (nI t)), (2, .ref (a + 1)), (3, .int (nI j)), (4, .int (nI m)), (5, .int 0)]) (st' := [.int (-1)]) (H' := _) (kc' := 0) (ks' := 0) rfl ?_
      refine RQ.brT rfl rfl rfl (by decide) ?_
      refine RQ.blk 1 (pc' := 53) (lv' := [(7, .int (-1)), (6, .int (-1)), (0, .ref 196), (1, .int (nI t)), (2, .ref (a + 1)), (3, .int (nI j)), (4, .int (nI m)), (5, .int 0)]) (st' := [.int (-1)]) (H' := _) (kc' := 0) (ks' := 0) rfl ?_
      refine RQ.brT rfl rfl rfl (by decide) ?_
      refine RQ.blk 1 (pc' := 67) (lv' := [(7, .int (-1)), (6, .int (-1)), (0, .ref 196), (1, .int (nI t)), (2, .ref (a + 1)), (3, .int (nI j)), (4, .int (nI m)), (5, .int 0)]) (st' := [.int (-1)]) (H' := _) (kc' := 0) (ks' := 0) rfl ?_
      refine RQ.blk 2 (pc' := 71) (lv' := [(8, .int (-1)), (7, .int (-1)), (6, .int (-1)), (0, .ref 196), (1, .int (nI t)), (2, .ref (a + 1)), (3, .int (nI j)), (4, .int (nI m)), (5, .int 0)]) (st' := [.int 0]) (H' := _) (kc' := 0) (ks' := 0) rfl ?_
      refine RQ.brF rfl rfl rfl (by decide) ?_
      refine RQ.blk 1 (pc' := 76) (lv' := [(8, .int (-1)), (7, .int (-1)), (6, .int (-1)), (0, .ref 196), (1, .int (nI t)), (2, .ref (a + 1)), (3, .int (nI j)), (4, .int (nI m)), (5, .int 0)]) (st' := [.int (-1)]) (H' := _) (kc' := 0) (ks' := 0) rfl ?_
      exact RQ.done (c := 0) (s := 0) rfl rfl rfl rfl ⟨_, _, rfl, none, hgW.symm, rfl, rfl⟩
    | some v =>
      rw [show lI (some v) = nI v from rfl]
      have hvl := bestV_lt _ _ hbest
      obtain ⟨w, hw⟩ := lt_get hvl
      obtain ⟨k1, k2, k3, k4⟩ := hl.key hw
      have hk_v := (hl.ok hk).2 v hvl
      have hn15 := hk.1
      have hgW : getW ws (lookM ms (sl g j m) (se t)) (sl g j m) = w.2.2 := by unfold getW lookM; rw [hix, hsn, hbest]; show (ms[v]?).bind _ = _; rw [hw]; rfl
      have hval := hl.val hw
      refine RQ.blk 3 (pc' := 38) (lv' := [(7, .int (nI v)), (6, .int (-1)), (0, .ref 196), (1, .int (nI t)), (2, .ref (a + 1)), (3, .int (nI j)), (4, .int (nI m)), (5, .int 0)]) (st' := [.int (-1)]) (H' := _) (kc' := 0) (ks' := 0) rfl ?_
      refine RQ.brT rfl rfl rfl (by decide) ?_
      refine RQ.blk 1 (pc' := 53) (lv' := [(7, .int (nI v)), (6, .int (-1)), (0, .ref 196), (1, .int (nI t)), (2, .ref (a + 1)), (3, .int (nI j)), (4, .int (nI m)), (5, .int 0)]) (st' := [.int (nI v)]) (H' := _) (kc' := 0) (ks' := 0) rfl ?_
      refine RQ.brF rfl rfl rfl (cF_lt v 0) ?_
      refine RQ.blk 1 (pc' := 57) (lv' := [(7, .int (nI v)), (6, .int (-1)), (0, .ref 196), (1, .int (nI t)), (2, .ref (a + 1)), (3, .int (nI j)), (4, .int (nI m)), (5, .int 0)]) (st' := [.ref 196]) (H' := _) (kc' := 0) (ks' := 0) rfl ?_
      refine RQ.get (ci := 12) rfl hm rfl rfl ?_
      refine RQ.blk 1 (pc' := 62) (lv' := [(7, .int (nI v)), (6, .int (-1)), (0, .ref 196), (1, .int (nI t)), (2, .ref (a + 1)), (3, .int (nI j)), (4, .int (nI m)), (5, .int 0)]) (st' := [.int (nI v), .ref 202]) (H' := _) (kc' := 0) (ks' := 0) rfl ?_
      refine RQ.ialdN (j := v) rfl h.2.2.2.1 (by omega) (by decide) ?_
      refine RQ.blk 1 (pc' := 67) (lv' := [(7, .int (nI v)), (6, .int (-1)), (0, .ref 196), (1, .int (nI t)), (2, .ref (a + 1)), (3, .int (nI j)), (4, .int (nI m)), (5, .int 0)]) (st' := [.int (lI (vz v))]) (H' := _) (kc' := 0) (ks' := 0) rfl ?_
      rw [k3]
      cases hev : w.2.2 with
      | none =>
        rw [hev] at hgW k3
        rw [show lI (Option.map List.length none) = -1 from rfl]
        refine RQ.blk 2 (pc' := 71) (lv' := [(8, .int (-1)), (7, .int (nI v)), (6, .int (-1)), (0, .ref 196), (1, .int (nI t)), (2, .ref (a + 1)), (3, .int (nI j)), (4, .int (nI m)), (5, .int 0)]) (st' := [.int 0]) (H' := _) (kc' := 0) (ks' := 0) rfl ?_
        refine RQ.brF rfl rfl rfl (by decide) ?_
        refine RQ.blk 1 (pc' := 76) (lv' := [(8, .int (-1)), (7, .int (nI v)), (6, .int (-1)), (0, .ref 196), (1, .int (nI t)), (2, .ref (a + 1)), (3, .int (nI j)), (4, .int (nI m)), (5, .int 0)]) (st' := [.int (-1)]) (H' := _) (kc' := 0) (ks' := 0) rfl ?_
        exact RQ.done (c := 0) (s := 0) rfl rfl rfl rfl ⟨_, _, rfl, none, hgW.symm, rfl, rfl⟩
      | some x =>
        rw [hev] at hgW k3
        rw [show lI (Option.map List.length (some x)) = nI x.length from rfl]
        rw [k3] at hk_v hval
        rw [hev] at hval
        have hval : sl bf (vo v) x.length = x := hval
        have hx : x.length ≤ 1000 := by have := hms w (List.mem_of_getElem? hw); rw [hev] at this; exact this
        have hk_v2 : vo v + x.length ≤ 48000 := hk_v.2.2.1
        refine RQ.blk 2 (pc' := 71) (lv' := [(8, .int (nI x.length)), (7, .int (nI v)), (6, .int (-1)), (0, .ref 196), (1, .int (nI t)), (2, .ref (a + 1)), (3, .int (nI j)), (4, .int (nI m)), (5, .int 0)]) (st' := [.int 0]) (H' := _) (kc' := 0) (ks' := 0) rfl ?_
        refine RQ.brF rfl rfl rfl (by decide) ?_
        refine RQ.blk 1 (pc' := 76) (lv' := [(8, .int (nI x.length)), (7, .int (nI v)), (6, .int (-1)), (0, .ref 196), (1, .int (nI t)), (2, .ref (a + 1)), (3, .int (nI j)), (4, .int (nI m)), (5, .int 0)]) (st' := [.int (nI x.length)]) (H' := _) (kc' := 0) (ks' := 0) rfl ?_
        exact RQ.done (c := 0) (s := 0) rfl rfl rfl rfl ⟨_, _, rfl, some x, hgW.symm, rfl, rfl⟩
  | some i =>
    rw [show lI (Option.map (fun i => 32 * t + i) (some i)) = nI (32 * t + i) from rfl]
    obtain ⟨⟨e0, hi0, he0⟩, -⟩ := ixK_some hix
    have hil := get_lt hi0
    have hlen := hT.2.2.1
    obtain ⟨f1, f2, f3, f4⟩ := hT.2.2.2.2 i e0 hi0
    have f5 := ((hT.ok ht).2.2.2 i (by rw [hT.1]; exact hil)).2
    have f6 := hT.2.2.2.1
    have f7 := hT.2.1
    have hgW : getW ws (lookM ms (sl g j m) (se t)) (sl g j m) = e0.2 := by unfold getW; rw [hix]; show (ws[i]?).bind _ = _; rw [hi0]; rfl
    have f3 : wz (32 * t + i) = e0.2.map List.length := f3
    have hval : ∀ x, e0.2 = some x → sl wb (wk (32 * t + i) + wn (32 * t + i)) x.length = x := fun x hx => LayE.val hT.2.2.2.2 (k := e0.1) (hi0.trans (congrArg some (Prod.ext rfl hx)))
    refine RQ.brT rfl rfl rfl (cT_ge (32 * t + i) 0) ?_
    refine RQ.blk 3 (pc' := 38) (lv' := [(7, .int (-1)), (6, .int (nI (32 * t + i))), (0, .ref 196), (1, .int (nI t)), (2, .ref (a + 1)), (3, .int (nI j)), (4, .int (nI m)), (5, .int 0)]) (st' := [.int (nI (32 * t + i))]) (H' := _) (kc' := 0) (ks' := 0) rfl ?_
    refine RQ.brF rfl rfl rfl (cF_lt (32 * t + i) 0) ?_
    refine RQ.blk 1 (pc' := 42) (lv' := [(7, .int (-1)), (6, .int (nI (32 * t + i))), (0, .ref 196), (1, .int (nI t)), (2, .ref (a + 1)), (3, .int (nI j)), (4, .int (nI m)), (5, .int 0)]) (st' := [.ref 196]) (H' := _) (kc' := 0) (ks' := 0) rfl ?_
    refine RQ.get (ci := 12) rfl hm rfl rfl ?_
    refine RQ.blk 1 (pc' := 47) (lv' := [(7, .int (-1)), (6, .int (nI (32 * t + i))), (0, .ref 196), (1, .int (nI t)), (2, .ref (a + 1)), (3, .int (nI j)), (4, .int (nI m)), (5, .int 0)]) (st' := [.int (nI (32 * t + i)), .ref 212]) (H' := _) (kc' := 0) (ks' := 0) rfl ?_
    refine RQ.ialdN (j := 32 * t + i) rfl hR.2.2.2.2.1 (by omega) (by decide) ?_
    refine RQ.blk 1 (pc' := 67) (lv' := [(7, .int (-1)), (6, .int (nI (32 * t + i))), (0, .ref 196), (1, .int (nI t)), (2, .ref (a + 1)), (3, .int (nI j)), (4, .int (nI m)), (5, .int 0)]) (st' := [.int (lI (wz (32 * t + i)))]) (H' := _) (kc' := 0) (ks' := 0) rfl ?_
    rw [f3]
    cases hev : e0.2 with
    | none =>
      rw [hev] at hgW f3
      rw [show lI (Option.map List.length none) = -1 from rfl]
      refine RQ.blk 2 (pc' := 71) (lv' := [(8, .int (-1)), (7, .int (-1)), (6, .int (nI (32 * t + i))), (0, .ref 196), (1, .int (nI t)), (2, .ref (a + 1)), (3, .int (nI j)), (4, .int (nI m)), (5, .int 0)]) (st' := [.int 0]) (H' := _) (kc' := 0) (ks' := 0) rfl ?_
      refine RQ.brF rfl rfl rfl (by decide) ?_
      refine RQ.blk 1 (pc' := 76) (lv' := [(8, .int (-1)), (7, .int (-1)), (6, .int (nI (32 * t + i))), (0, .ref 196), (1, .int (nI t)), (2, .ref (a + 1)), (3, .int (nI j)), (4, .int (nI m)), (5, .int 0)]) (st' := [.int (-1)]) (H' := _) (kc' := 0) (ks' := 0) rfl ?_
      exact RQ.done (c := 0) (s := 0) rfl rfl rfl rfl ⟨_, _, rfl, none, hgW.symm, rfl, rfl⟩
    | some x =>
      rw [hev] at hgW f3
      rw [show lI (Option.map List.length (some x)) = nI x.length from rfl]
      have hval := hval x hev
      rw [f3] at f5
      have f5 : wk (32 * t + i) + wn (32 * t + i) + x.length ≤ 4000 * t + fi t := f5
      have hx : x.length ≤ 1000 := by have := hws e0 (List.mem_of_getElem? hi0); rw [hev] at this; exact this
      refine RQ.blk 2 (pc' := 71) (lv' := [(8, .int (nI x.length)), (7, .int (-1)), (6, .int (nI (32 * t + i))), (0, .ref 196), (1, .int (nI t)), (2, .ref (a + 1)), (3, .int (nI j)), (4, .int (nI m)), (5, .int 0)]) (st' := [.int 0]) (H' := _) (kc' := 0) (ks' := 0) rfl ?_
      refine RQ.brF rfl rfl rfl (by decide) ?_
      refine RQ.blk 1 (pc' := 76) (lv' := [(8, .int (nI x.length)), (7, .int (-1)), (6, .int (nI (32 * t + i))), (0, .ref 196), (1, .int (nI t)), (2, .ref (a + 1)), (3, .int (nI j)), (4, .int (nI m)), (5, .int 0)]) (st' := [.int (nI x.length)]) (H' := _) (kc' := 0) (ks' := 0) rfl ?_
      exact RQ.done (c := 0) (s := 0) rfl rfl rfl rfl ⟨_, _, rfl, some x, hgW.symm, rfl, rfl⟩
theorem ri_tell1 {sc : Nat × (Nat → Int32)} {d t a na j m : Nat} {H : aH} {fa li dn cw cl tp rs pr us pi hu : Int32} {ba bo : Nat} {bf : Nat → Int8} {ko kn vo : Nat → Nat} {vz : Nat → Option Nat} {vm : Nat → Nat} {ms : List aMV} {ro fi wk wn : Nat → Nat} {wz : Nat → Option Nat} {wb : Nat → Int8} {se : Nat → Nat} {ws : List aE} {g0 g : Nat → Int8} (hm : H[195]? = some (kO 12 (mfs fa li dn cw cl tp rs pr (nI ms.length) us pi hu ba bo))) (h : MVAt H ba bf ko kn vo vz vm) (hl : MVLay bf ko kn vo vz vm ms) (hk : MSOk ms) (hba : ba = 203 ∨ ba = 204) (hR : MRAt H ro fi wk wn wz wb) (hT : TxL ro fi wk wn wz wb t ws) (ht : t < 8) (h6 : H[206]? = some (kI 8 (fun j => nI (se j)))) (hse : se t < 2 ^ 31) (h1 : H[a]? = some (kB na g)) (hna : na < 2 ^ 30) (hj : j + m ≤ na) (h197 : H[197]? = some (kB 1000 g0)) (h1M : OneM ms) (hws : ∀ e ∈ ws, (e.2.getD []).length ≤ 1000) (hms : ∀ w ∈ ms, (w.2.2.getD []).length ≤ 1000) : RI sc (d + 2) mr_290 [.ref 196, .int (nI t), .ref (a + 1), .int (nI j), .int (nI m), .int 1] H (fun x H' => ∃ rv, rv = getW ws (lookM ms (sl g j m) (se t)) (sl g j m) ∧ x = lI (rv.map List.length) ∧ H'[195]? = some (kO 12 (mfs fa li dn cw cl tp (nI (rv.getD []).length) pr (nI ms.length) us pi hu ba bo)) ∧ (∃ g', H'[197]? = some (kB 1000 g') ∧ sl g' 0 (rv.getD []).length = rv.getD [] ∧ (rv.getD []).length ≤ 1000) ∧ ∀ a, a ≠ 195 → a ≠ 197 → H'[a]? = H[a]?) := by
  refine RI.of ?_
  refine RQ.blk 5 (pc' := 6) (lv' := [(0, .ref 196), (1, .int (nI t)), (2, .ref (a + 1)), (3, .int (nI j)), (4, .int (nI m)), (5, .int 1)]) (st' := [.int (nI m), .int (nI j), .ref (a + 1), .int (nI t), .ref 196]) (H' := _) (kc' := 0) (ks' := 0) rfl ?_
  refine RQ.call (v := some (.int (lI ((ixK ws (sl g j m)).map (fun i => 32 * t + i))))) (st' := []) rfl rfl rfl rfl rfl rfl (args_v [.int (nI m), .int (nI j), .ref (a + 1), .int (nI t)] [] rfl rfl (Nat.le_of_ble_eq_true rfl) rfl hm (Nat.le_of_ble_eq_true rfl)) (rc_mrowOfL hm hR hT ht h1 hna hj) ?_
  refine RQ.blk 2 (pc' := 13) (lv' := [(6, .int (lI ((ixK ws (sl g j m)).map (fun i => 32 * t + i)))), (0, .ref 196), (1, .int (nI t)), (2, .ref (a + 1)), (3, .int (nI j)), (4, .int (nI m)), (5, .int 1)]) (st' := [.int (lI ((ixK ws (sl g j m)).map (fun i => 32 * t + i)))]) (H' := _) (kc' := 0) (ks' := 0) rfl ?_
  cases hix : ixK ws (sl g j m) with
  | none =>
    rw [show lI (Option.map (fun i => 32 * t + i) none) = -1 from rfl]
    refine RQ.brF rfl rfl rfl (by decide) ?_
    refine RQ.blk 5 (pc' := 22) (lv' := [(6, .int (-1)), (0, .ref 196), (1, .int (nI t)), (2, .ref (a + 1)), (3, .int (nI j)), (4, .int (nI m)), (5, .int 1)]) (st' := [.ref 196, .int (nI m), .int (nI j), .ref (a + 1), .ref 196]) (H' := _) (kc' := 0) (ks' := 0) rfl ?_
    refine RQ.get (ci := 12) rfl hm rfl rfl ?_
    refine RQ.blk 1 (pc' := 26) (lv' := [(6, .int (-1)), (0, .ref 196), (1, .int (nI t)), (2, .ref (a + 1)), (3, .int (nI j)), (4, .int (nI m)), (5, .int 1)]) (st' := [.int (nI t), .ref 207, .int (nI m), .int (nI j), .ref (a + 1), .ref 196]) (H' := _) (kc' := 0) (ks' := 0) rfl ?_
    refine RQ.ialdN (j := t) rfl h6 (by omega) (by decide) ?_
    refine RQ.call (v := some (.int (lI (bestV bf ko kn vm (sl g j m) (se t) ms.length)))) (st' := []) rfl rfl rfl rfl rfl rfl (args_v [.int (nI (se t)), .int (nI m), .int (nI j), .ref (a + 1)] [] rfl rfl (Nat.le_of_ble_eq_true rfl) rfl hm (Nat.le_of_ble_eq_true rfl)) (rc_mversionAt hm h (hl.ok hk) h1 hna hj hse) ?_
    have hsn := best_seen (key := (sl g j m)) (m := se t) hl h1M
    cases hbest : bestV bf ko kn vm (sl g j m) (se t) ms.length with
    | none =>
      rw [show lI none = -1 from rfl]
      have hgW : getW ws (lookM ms (sl g j m) (se t)) (sl g j m) = none := by unfold getW lookM; rw [hix, hsn, hbest]; rfl
      refine RQ.blk 3 (pc' := 38) (lv' := [(7, .int (-1)), (6, .int (-1)), (0, .ref 196), (1, .int (nI t)), (2, .ref (a + 1)), (3, .int (nI j)), (4, .int (nI m)), (5, .int 1)]) (st' := [.int (-1)]) (H' := _) (kc' := 0) (ks' := 0) rfl ?_
      refine RQ.brT rfl rfl rfl (by decide) ?_
      refine RQ.blk 1 (pc' := 53) (lv' := [(7, .int (-1)), (6, .int (-1)), (0, .ref 196), (1, .int (nI t)), (2, .ref (a + 1)), (3, .int (nI j)), (4, .int (nI m)), (5, .int 1)]) (st' := [.int (-1)]) (H' := _) (kc' := 0) (ks' := 0) rfl ?_
      refine RQ.brT rfl rfl rfl (by decide) ?_
      refine RQ.blk 1 (pc' := 67) (lv' := [(7, .int (-1)), (6, .int (-1)), (0, .ref 196), (1, .int (nI t)), (2, .ref (a + 1)), (3, .int (nI j)), (4, .int (nI m)), (5, .int 1)]) (st' := [.int (-1)]) (H' := _) (kc' := 0) (ks' := 0) rfl ?_
      refine RQ.blk 2 (pc' := 71) (lv' := [(8, .int (-1)), (7, .int (-1)), (6, .int (-1)), (0, .ref 196), (1, .int (nI t)), (2, .ref (a + 1)), (3, .int (nI j)), (4, .int (nI m)), (5, .int 1)]) (st' := [.int 1]) (H' := _) (kc' := 0) (ks' := 0) rfl ?_
      refine RQ.brT rfl rfl rfl (by decide) ?_
      refine RQ.blk 1 (pc' := 79) (lv' := [(8, .int (-1)), (7, .int (-1)), (6, .int (-1)), (0, .ref 196), (1, .int (nI t)), (2, .ref (a + 1)), (3, .int (nI j)), (4, .int (nI m)), (5, .int 1)]) (st' := [.int (-1)]) (H' := _) (kc' := 0) (ks' := 0) rfl ?_
      refine RQ.brT rfl rfl rfl (by decide) ?_
      refine RQ.blk 1 (pc' := 102) (lv' := [(8, .int (-1)), (7, .int (-1)), (6, .int (-1)), (0, .ref 196), (1, .int (nI t)), (2, .ref (a + 1)), (3, .int (nI j)), (4, .int (nI m)), (5, .int 1)]) (st' := [.int (-1)]) (H' := _) (kc' := 0) (ks' := 0) rfl ?_
      refine RQ.brT rfl rfl rfl (by decide) ?_
      refine RQ.blk 4 (pc' := 121) (lv' := [(10, .int 0), (9, .int 0), (8, .int (-1)), (7, .int (-1)), (6, .int (-1)), (0, .ref 196), (1, .int (nI t)), (2, .ref (a + 1)), (3, .int (nI j)), (4, .int (nI m)), (5, .int 1)]) (st' := []) (H' := _) (kc' := 0) (ks' := 0) rfl ?_
      refine RQ.blk 2 (pc' := 125) (lv' := [(10, .int 0), (9, .int 0), (8, .int (-1)), (7, .int (-1)), (6, .int (-1)), (0, .ref 196), (1, .int (nI t)), (2, .ref (a + 1)), (3, .int (nI j)), (4, .int (nI m)), (5, .int 1)]) (st' := [.int (-1), .int 0]) (H' := _) (kc' := 0) (ks' := 0) rfl ?_
      refine RQ.brT rfl rfl rfl (by decide) ?_
      refine RQ.blk 2 (pc' := 172) (lv' := [(10, .int 0), (9, .int 0), (8, .int (-1)), (7, .int (-1)), (6, .int (-1)), (0, .ref 196), (1, .int (nI t)), (2, .ref (a + 1)), (3, .int (nI j)), (4, .int (nI m)), (5, .int 1)]) (st' := [.int (-1), .ref 196]) (H' := _) (kc' := 0) (ks' := 0) rfl ?_
      refine RQ.brF rfl rfl rfl (by decide) ?_
      refine RQ.blk 2 (pc' := 181) (lv' := [(10, .int 0), (9, .int 0), (8, .int (-1)), (7, .int (-1)), (6, .int (-1)), (0, .ref 196), (1, .int (nI t)), (2, .ref (a + 1)), (3, .int (nI j)), (4, .int (nI m)), (5, .int 1)]) (st' := [.int 0, .ref 196]) (H' := _) (kc' := 0) (ks' := 0) rfl ?_
      refine RQ.put (ci := 12) rfl hm rfl rfl (Nat.le_of_ble_eq_true rfl) ?_
      refine RQ.blk 1 (pc' := 186) (lv' := [(10, .int 0), (9, .int 0), (8, .int (-1)), (7, .int (-1)), (6, .int (-1)), (0, .ref 196), (1, .int (nI t)), (2, .ref (a + 1)), (3, .int (nI j)), (4, .int (nI m)), (5, .int 1)]) (st' := [.int (-1)]) (H' := _) (kc' := 0) (ks' := 0) rfl ?_
      exact RQ.done (c := 0) (s := 0) rfl rfl rfl rfl ⟨_, _, rfl, none, hgW.symm, rfl, get_set hm, ⟨_, (set_far (by decide)).trans h197, rfl, Nat.zero_le _⟩, fun a ha hb => set_far ha⟩
    | some v =>
      rw [show lI (some v) = nI v from rfl]
      have hvl := bestV_lt _ _ hbest
      obtain ⟨w, hw⟩ := lt_get hvl
      obtain ⟨k1, k2, k3, k4⟩ := hl.key hw
      have hk_v := (hl.ok hk).2 v hvl
      have hn15 := hk.1
      have hgW : getW ws (lookM ms (sl g j m) (se t)) (sl g j m) = w.2.2 := by unfold getW lookM; rw [hix, hsn, hbest]; show (ms[v]?).bind _ = _; rw [hw]; rfl
      have hval := hl.val hw
      refine RQ.blk 3 (pc' := 38) (lv' := [(7, .int (nI v)), (6, .int (-1)), (0, .ref 196), (1, .int (nI t)), (2, .ref (a + 1)), (3, .int (nI j)), (4, .int (nI m)), (5, .int 1)]) (st' := [.int (-1)]) (H' := _) (kc' := 0) (ks' := 0) rfl ?_
      refine RQ.brT rfl rfl rfl (by decide) ?_
      refine RQ.blk 1 (pc' := 53) (lv' := [(7, .int (nI v)), (6, .int (-1)), (0, .ref 196), (1, .int (nI t)), (2, .ref (a + 1)), (3, .int (nI j)), (4, .int (nI m)), (5, .int 1)]) (st' := [.int (nI v)]) (H' := _) (kc' := 0) (ks' := 0) rfl ?_
      refine RQ.brF rfl rfl rfl (cF_lt v 0) ?_
      refine RQ.blk 1 (pc' := 57) (lv' := [(7, .int (nI v)), (6, .int (-1)), (0, .ref 196), (1, .int (nI t)), (2, .ref (a + 1)), (3, .int (nI j)), (4, .int (nI m)), (5, .int 1)]) (st' := [.ref 196]) (H' := _) (kc' := 0) (ks' := 0) rfl ?_
      refine RQ.get (ci := 12) rfl hm rfl rfl ?_
      refine RQ.blk 1 (pc' := 62) (lv' := [(7, .int (nI v)), (6, .int (-1)), (0, .ref 196), (1, .int (nI t)), (2, .ref (a + 1)), (3, .int (nI j)), (4, .int (nI m)), (5, .int 1)]) (st' := [.int (nI v), .ref 202]) (H' := _) (kc' := 0) (ks' := 0) rfl ?_
      refine RQ.ialdN (j := v) rfl h.2.2.2.1 (by omega) (by decide) ?_
      refine RQ.blk 1 (pc' := 67) (lv' := [(7, .int (nI v)), (6, .int (-1)), (0, .ref 196), (1, .int (nI t)), (2, .ref (a + 1)), (3, .int (nI j)), (4, .int (nI m)), (5, .int 1)]) (st' := [.int (lI (vz v))]) (H' := _) (kc' := 0) (ks' := 0) rfl ?_
      rw [k3]
      cases hev : w.2.2 with
      | none =>
        rw [hev] at hgW k3
        rw [show lI (Option.map List.length none) = -1 from rfl]
        refine RQ.blk 2 (pc' := 71) (lv' := [(8, .int (-1)), (7, .int (nI v)), (6, .int (-1)), (0, .ref 196), (1, .int (nI t)), (2, .ref (a + 1)), (3, .int (nI j)), (4, .int (nI m)), (5, .int 1)]) (st' := [.int 1]) (H' := _) (kc' := 0) (ks' := 0) rfl ?_
        refine RQ.brT rfl rfl rfl (by decide) ?_
        refine RQ.blk 1 (pc' := 79) (lv' := [(8, .int (-1)), (7, .int (nI v)), (6, .int (-1)), (0, .ref 196), (1, .int (nI t)), (2, .ref (a + 1)), (3, .int (nI j)), (4, .int (nI m)), (5, .int 1)]) (st' := [.int (-1)]) (H' := _) (kc' := 0) (ks' := 0) rfl ?_
        refine RQ.brT rfl rfl rfl (by decide) ?_
        refine RQ.blk 1 (pc' := 102) (lv' := [(8, .int (-1)), (7, .int (nI v)), (6, .int (-1)), (0, .ref 196), (1, .int (nI t)), (2, .ref (a + 1)), (3, .int (nI j)), (4, .int (nI m)), (5, .int 1)]) (st' := [.int (nI v)]) (H' := _) (kc' := 0) (ks' := 0) rfl ?_
        refine RQ.brF rfl rfl rfl (cF_lt v 0) ?_
        refine RQ.blk 1 (pc' := 106) (lv' := [(8, .int (-1)), (7, .int (nI v)), (6, .int (-1)), (0, .ref 196), (1, .int (nI t)), (2, .ref (a + 1)), (3, .int (nI j)), (4, .int (nI m)), (5, .int 1)]) (st' := [.ref 196]) (H' := _) (kc' := 0) (ks' := 0) rfl ?_
        refine RQ.get (ci := 12) rfl hm rfl rfl ?_
        refine RQ.blk 1 (pc' := 111) (lv' := [(8, .int (-1)), (7, .int (nI v)), (6, .int (-1)), (0, .ref 196), (1, .int (nI t)), (2, .ref (a + 1)), (3, .int (nI j)), (4, .int (nI m)), (5, .int 1)]) (st' := [.int (nI v), .ref 201]) (H' := _) (kc' := 0) (ks' := 0) rfl ?_
        refine RQ.ialdN (j := v) rfl h.2.2.1 (by omega) (by decide) ?_
        refine RQ.blk 4 (pc' := 121) (lv' := [(10, .int 0), (9, .int (nI (vo v))), (8, .int (-1)), (7, .int (nI v)), (6, .int (-1)), (0, .ref 196), (1, .int (nI t)), (2, .ref (a + 1)), (3, .int (nI j)), (4, .int (nI m)), (5, .int 1)]) (st' := []) (H' := _) (kc' := 0) (ks' := 0) rfl ?_
        refine RQ.blk 2 (pc' := 125) (lv' := [(10, .int 0), (9, .int (nI (vo v))), (8, .int (-1)), (7, .int (nI v)), (6, .int (-1)), (0, .ref 196), (1, .int (nI t)), (2, .ref (a + 1)), (3, .int (nI j)), (4, .int (nI m)), (5, .int 1)]) (st' := [.int (-1), .int 0]) (H' := _) (kc' := 0) (ks' := 0) rfl ?_
        refine RQ.brT rfl rfl rfl (by decide) ?_
        refine RQ.blk 2 (pc' := 172) (lv' := [(10, .int 0), (9, .int (nI (vo v))), (8, .int (-1)), (7, .int (nI v)), (6, .int (-1)), (0, .ref 196), (1, .int (nI t)), (2, .ref (a + 1)), (3, .int (nI j)), (4, .int (nI m)), (5, .int 1)]) (st' := [.int (-1), .ref 196]) (H' := _) (kc' := 0) (ks' := 0) rfl ?_
        refine RQ.brF rfl rfl rfl (by decide) ?_
        refine RQ.blk 2 (pc' := 181) (lv' := [(10, .int 0), (9, .int (nI (vo v))), (8, .int (-1)), (7, .int (nI v)), (6, .int (-1)), (0, .ref 196), (1, .int (nI t)), (2, .ref (a + 1)), (3, .int (nI j)), (4, .int (nI m)), (5, .int 1)]) (st' := [.int 0, .ref 196]) (H' := _) (kc' := 0) (ks' := 0) rfl ?_
        refine RQ.put (ci := 12) rfl hm rfl rfl (Nat.le_of_ble_eq_true rfl) ?_
        refine RQ.blk 1 (pc' := 186) (lv' := [(10, .int 0), (9, .int (nI (vo v))), (8, .int (-1)), (7, .int (nI v)), (6, .int (-1)), (0, .ref 196), (1, .int (nI t)), (2, .ref (a + 1)), (3, .int (nI j)), (4, .int (nI m)), (5, .int 1)]) (st' := [.int (-1)]) (H' := _) (kc' := 0) (ks' := 0) rfl ?_
        exact RQ.done (c := 0) (s := 0) rfl rfl rfl rfl ⟨_, _, rfl, none, hgW.symm, rfl, get_set hm, ⟨_, (set_far (by decide)).trans h197, rfl, Nat.zero_le _⟩, fun a ha hb => set_far ha⟩
      | some x =>
        rw [hev] at hgW k3
        rw [show lI (Option.map List.length (some x)) = nI x.length from rfl]
        rw [k3] at hk_v hval
        rw [hev] at hval
        have hval : sl bf (vo v) x.length = x := hval
        have hx : x.length ≤ 1000 := by have := hms w (List.mem_of_getElem? hw); rw [hev] at this; exact this
        have hk_v2 : vo v + x.length ≤ 48000 := hk_v.2.2.1
        refine RQ.blk 2 (pc' := 71) (lv' := [(8, .int (nI x.length)), (7, .int (nI v)), (6, .int (-1)), (0, .ref 196), (1, .int (nI t)), (2, .ref (a + 1)), (3, .int (nI j)), (4, .int (nI m)), (5, .int 1)]) (st' := [.int 1]) (H' := _) (kc' := 0) (ks' := 0) rfl ?_
        refine RQ.brT rfl rfl rfl (by decide) ?_
        refine RQ.blk 1 (pc' := 79) (lv' := [(8, .int (nI x.length)), (7, .int (nI v)), (6, .int (-1)), (0, .ref 196), (1, .int (nI t)), (2, .ref (a + 1)), (3, .int (nI j)), (4, .int (nI m)), (5, .int 1)]) (st' := [.int (-1)]) (H' := _) (kc' := 0) (ks' := 0) rfl ?_
        refine RQ.brT rfl rfl rfl (by decide) ?_
        refine RQ.blk 1 (pc' := 102) (lv' := [(8, .int (nI x.length)), (7, .int (nI v)), (6, .int (-1)), (0, .ref 196), (1, .int (nI t)), (2, .ref (a + 1)), (3, .int (nI j)), (4, .int (nI m)), (5, .int 1)]) (st' := [.int (nI v)]) (H' := _) (kc' := 0) (ks' := 0) rfl ?_
        refine RQ.brF rfl rfl rfl (cF_lt v 0) ?_
        refine RQ.blk 1 (pc' := 106) (lv' := [(8, .int (nI x.length)), (7, .int (nI v)), (6, .int (-1)), (0, .ref 196), (1, .int (nI t)), (2, .ref (a + 1)), (3, .int (nI j)), (4, .int (nI m)), (5, .int 1)]) (st' := [.ref 196]) (H' := _) (kc' := 0) (ks' := 0) rfl ?_
        refine RQ.get (ci := 12) rfl hm rfl rfl ?_
        refine RQ.blk 1 (pc' := 111) (lv' := [(8, .int (nI x.length)), (7, .int (nI v)), (6, .int (-1)), (0, .ref 196), (1, .int (nI t)), (2, .ref (a + 1)), (3, .int (nI j)), (4, .int (nI m)), (5, .int 1)]) (st' := [.int (nI v), .ref 201]) (H' := _) (kc' := 0) (ks' := 0) rfl ?_
        refine RQ.ialdN (j := v) rfl h.2.2.1 (by omega) (by decide) ?_
        refine RQ.blk 4 (pc' := 121) (lv' := [(10, .int 0), (9, .int (nI (vo v))), (8, .int (nI x.length)), (7, .int (nI v)), (6, .int (-1)), (0, .ref 196), (1, .int (nI t)), (2, .ref (a + 1)), (3, .int (nI j)), (4, .int (nI m)), (5, .int 1)]) (st' := []) (H' := _) (kc' := 0) (ks' := 0) rfl ?_
        refine RQ.pick (a := [(10, .int 0), (9, .int (nI (vo v))), (8, .int (nI x.length)), (7, .int (nI v)), (6, .int (-1)), (0, .ref 196)]) [0, 1, 2, 3, 4, 5] [10, 9, 8, 7, 6, 0, 1, 2, 3, 4, 5] rfl rfl (by decide) ?_
        refine rq_tellV (fr := vo v) (n := x.length) hm h.2.2.2.2.2 hba h197 hx (by omega) ?_
        refine RQ.blk 2 (pc' := 172) (lv' := [(10, .int (nI x.length)), (9, .int (nI (vo v))), (8, .int (nI x.length)), (7, .int (nI v)), (6, .int (-1)), (0, .ref 196)]) (st' := [.int (nI x.length), .ref 196]) (H' := _) (kc' := 0) (ks' := 0) rfl ?_
        refine RQ.brT rfl rfl rfl (cT_ge x.length 0) ?_
        refine RQ.blk 1 (pc' := 181) (lv' := [(10, .int (nI x.length)), (9, .int (nI (vo v))), (8, .int (nI x.length)), (7, .int (nI v)), (6, .int (-1)), (0, .ref 196)]) (st' := [.int (nI x.length), .ref 196]) (H' := _) (kc' := 0) (ks' := 0) rfl ?_
        refine RQ.put (ci := 12) rfl ((set_far (by decide)).trans hm) rfl rfl (Nat.le_of_ble_eq_true rfl) ?_
        refine RQ.blk 1 (pc' := 186) (lv' := [(10, .int (nI x.length)), (9, .int (nI (vo v))), (8, .int (nI x.length)), (7, .int (nI v)), (6, .int (-1)), (0, .ref 196)]) (st' := [.int (nI x.length)]) (H' := _) (kc' := 0) (ks' := 0) rfl ?_
        exact RQ.done (c := 0) (s := 0) rfl rfl rfl rfl ⟨_, _, rfl, some x, hgW.symm, rfl, get_set ((set_far (by decide)).trans hm), ⟨_, (set_far (by decide)).trans (get_set h197), by rw [show (Option.getD (some x) []).length = x.length from rfl, sl_cpy]; exact hval, hx⟩, fun a ha hb => (set_far ha).trans (set_far hb)⟩
  | some i =>
    rw [show lI (Option.map (fun i => 32 * t + i) (some i)) = nI (32 * t + i) from rfl]
    obtain ⟨⟨e0, hi0, he0⟩, -⟩ := ixK_some hix
    have hil := get_lt hi0
    have hlen := hT.2.2.1
    obtain ⟨f1, f2, f3, f4⟩ := hT.2.2.2.2 i e0 hi0
    have f5 := ((hT.ok ht).2.2.2 i (by rw [hT.1]; exact hil)).2
    have f6 := hT.2.2.2.1
    have f7 := hT.2.1
    have hgW : getW ws (lookM ms (sl g j m) (se t)) (sl g j m) = e0.2 := by unfold getW; rw [hix]; show (ws[i]?).bind _ = _; rw [hi0]; rfl
    have f3 : wz (32 * t + i) = e0.2.map List.length := f3
    have hval : ∀ x, e0.2 = some x → sl wb (wk (32 * t + i) + wn (32 * t + i)) x.length = x := fun x hx => LayE.val hT.2.2.2.2 (k := e0.1) (hi0.trans (congrArg some (Prod.ext rfl hx)))
    refine RQ.brT rfl rfl rfl (cT_ge (32 * t + i) 0) ?_
    refine RQ.blk 3 (pc' := 38) (lv' := [(7, .int (-1)), (6, .int (nI (32 * t + i))), (0, .ref 196), (1, .int (nI t)), (2, .ref (a + 1)), (3, .int (nI j)), (4, .int (nI m)), (5, .int 1)]) (st' := [.int (nI (32 * t + i))]) (H' := _) (kc' := 0) (ks' := 0) rfl ?_
    refine RQ.brF rfl rfl rfl (cF_lt (32 * t + i) 0) ?_
    refine RQ.blk 1 (pc' := 42) (lv' := [(7, .int (-1)), (6, .int (nI (32 * t + i))), (0, .ref 196), (1, .int (nI t)), (2, .ref (a + 1)), (3, .int (nI j)), (4, .int (nI m)), (5, .int 1)]) (st' := [.ref 196]) (H' := _) (kc' := 0) (ks' := 0) rfl ?_
    refine RQ.get (ci := 12) rfl hm rfl rfl ?_
    refine RQ.blk 1 (pc' := 47) (lv' := [(7, .int (-1)), (6, .int (nI (32 * t + i))), (0, .ref 196), (1, .int (nI t)), (2, .ref (a + 1)), (3, .int (nI j)), (4, .int (nI m)), (5, .int 1)]) (st' := [.int (nI (32 * t + i)), .ref 212]) (H' := _) (kc' := 0) (ks' := 0) rfl ?_
    refine RQ.ialdN (j := 32 * t + i) rfl hR.2.2.2.2.1 (by omega) (by decide) ?_
    refine RQ.blk 1 (pc' := 67) (lv' := [(7, .int (-1)), (6, .int (nI (32 * t + i))), (0, .ref 196), (1, .int (nI t)), (2, .ref (a + 1)), (3, .int (nI j)), (4, .int (nI m)), (5, .int 1)]) (st' := [.int (lI (wz (32 * t + i)))]) (H' := _) (kc' := 0) (ks' := 0) rfl ?_
    rw [f3]
    cases hev : e0.2 with
    | none =>
      rw [hev] at hgW f3
      rw [show lI (Option.map List.length none) = -1 from rfl]
      refine RQ.blk 2 (pc' := 71) (lv' := [(8, .int (-1)), (7, .int (-1)), (6, .int (nI (32 * t + i))), (0, .ref 196), (1, .int (nI t)), (2, .ref (a + 1)), (3, .int (nI j)), (4, .int (nI m)), (5, .int 1)]) (st' := [.int 1]) (H' := _) (kc' := 0) (ks' := 0) rfl ?_
      refine RQ.brT rfl rfl rfl (by decide) ?_
      refine RQ.blk 1 (pc' := 79) (lv' := [(8, .int (-1)), (7, .int (-1)), (6, .int (nI (32 * t + i))), (0, .ref 196), (1, .int (nI t)), (2, .ref (a + 1)), (3, .int (nI j)), (4, .int (nI m)), (5, .int 1)]) (st' := [.int (nI (32 * t + i))]) (H' := _) (kc' := 0) (ks' := 0) rfl ?_
      refine RQ.brF rfl rfl rfl (cF_lt (32 * t + i) 0) ?_
      refine RQ.blk 1 (pc' := 83) (lv' := [(8, .int (-1)), (7, .int (-1)), (6, .int (nI (32 * t + i))), (0, .ref 196), (1, .int (nI t)), (2, .ref (a + 1)), (3, .int (nI j)), (4, .int (nI m)), (5, .int 1)]) (st' := [.ref 196]) (H' := _) (kc' := 0) (ks' := 0) rfl ?_
      refine RQ.get (ci := 12) rfl hm rfl rfl ?_
      refine RQ.blk 1 (pc' := 88) (lv' := [(8, .int (-1)), (7, .int (-1)), (6, .int (nI (32 * t + i))), (0, .ref 196), (1, .int (nI t)), (2, .ref (a + 1)), (3, .int (nI j)), (4, .int (nI m)), (5, .int 1)]) (st' := [.int (nI (32 * t + i)), .ref 210]) (H' := _) (kc' := 0) (ks' := 0) rfl ?_
      refine RQ.ialdN (j := 32 * t + i) rfl hR.2.2.1 (by omega) (by decide) ?_
      refine RQ.blk 1 (pc' := 90) (lv' := [(8, .int (-1)), (7, .int (-1)), (6, .int (nI (32 * t + i))), (0, .ref 196), (1, .int (nI t)), (2, .ref (a + 1)), (3, .int (nI j)), (4, .int (nI m)), (5, .int 1)]) (st' := [.ref 196, .int (nI (wk (32 * t + i)))]) (H' := _) (kc' := 0) (ks' := 0) rfl ?_
      refine RQ.get (ci := 12) rfl hm rfl rfl ?_
      refine RQ.blk 1 (pc' := 95) (lv' := [(8, .int (-1)), (7, .int (-1)), (6, .int (nI (32 * t + i))), (0, .ref 196), (1, .int (nI t)), (2, .ref (a + 1)), (3, .int (nI j)), (4, .int (nI m)), (5, .int 1)]) (st' := [.int (nI (32 * t + i)), .ref 211, .int (nI (wk (32 * t + i)))]) (H' := _) (kc' := 0) (ks' := 0) rfl ?_
      refine RQ.ialdN (j := 32 * t + i) rfl hR.2.2.2.1 (by omega) (by decide) ?_
      refine RQ.blk 1 (pc' := 97) (lv' := [(8, .int (-1)), (7, .int (-1)), (6, .int (nI (32 * t + i))), (0, .ref 196), (1, .int (nI t)), (2, .ref (a + 1)), (3, .int (nI j)), (4, .int (nI m)), (5, .int 1)]) (st' := [.int (nI (wk (32 * t + i)) + nI (wn (32 * t + i)))]) (H' := _) (kc' := 0) (ks' := 0) rfl ?_
      rw [show (nI (wk (32 * t + i)) + nI (wn (32 * t + i)) : Int32) = nI (wk (32 * t + i) + (wn (32 * t + i))) from nI_add (wk (32 * t + i)) (wn (32 * t + i))]
      refine RQ.blk 4 (pc' := 121) (lv' := [(10, .int 0), (9, .int (nI (wk (32 * t + i) + (wn (32 * t + i))))), (8, .int (-1)), (7, .int (-1)), (6, .int (nI (32 * t + i))), (0, .ref 196), (1, .int (nI t)), (2, .ref (a + 1)), (3, .int (nI j)), (4, .int (nI m)), (5, .int 1)]) (st' := []) (H' := _) (kc' := 0) (ks' := 0) rfl ?_
      refine RQ.blk 2 (pc' := 125) (lv' := [(10, .int 0), (9, .int (nI (wk (32 * t + i) + (wn (32 * t + i))))), (8, .int (-1)), (7, .int (-1)), (6, .int (nI (32 * t + i))), (0, .ref 196), (1, .int (nI t)), (2, .ref (a + 1)), (3, .int (nI j)), (4, .int (nI m)), (5, .int 1)]) (st' := [.int (-1), .int 0]) (H' := _) (kc' := 0) (ks' := 0) rfl ?_
      refine RQ.brT rfl rfl rfl (by decide) ?_
      refine RQ.blk 2 (pc' := 172) (lv' := [(10, .int 0), (9, .int (nI (wk (32 * t + i) + (wn (32 * t + i))))), (8, .int (-1)), (7, .int (-1)), (6, .int (nI (32 * t + i))), (0, .ref 196), (1, .int (nI t)), (2, .ref (a + 1)), (3, .int (nI j)), (4, .int (nI m)), (5, .int 1)]) (st' := [.int (-1), .ref 196]) (H' := _) (kc' := 0) (ks' := 0) rfl ?_
      refine RQ.brF rfl rfl rfl (by decide) ?_
      refine RQ.blk 2 (pc' := 181) (lv' := [(10, .int 0), (9, .int (nI (wk (32 * t + i) + (wn (32 * t + i))))), (8, .int (-1)), (7, .int (-1)), (6, .int (nI (32 * t + i))), (0, .ref 196), (1, .int (nI t)), (2, .ref (a + 1)), (3, .int (nI j)), (4, .int (nI m)), (5, .int 1)]) (st' := [.int 0, .ref 196]) (H' := _) (kc' := 0) (ks' := 0) rfl ?_
      refine RQ.put (ci := 12) rfl hm rfl rfl (Nat.le_of_ble_eq_true rfl) ?_
      refine RQ.blk 1 (pc' := 186) (lv' := [(10, .int 0), (9, .int (nI (wk (32 * t + i) + (wn (32 * t + i))))), (8, .int (-1)), (7, .int (-1)), (6, .int (nI (32 * t + i))), (0, .ref 196), (1, .int (nI t)), (2, .ref (a + 1)), (3, .int (nI j)), (4, .int (nI m)), (5, .int 1)]) (st' := [.int (-1)]) (H' := _) (kc' := 0) (ks' := 0) rfl ?_
      exact RQ.done (c := 0) (s := 0) rfl rfl rfl rfl ⟨_, _, rfl, none, hgW.symm, rfl, get_set hm, ⟨_, (set_far (by decide)).trans h197, rfl, Nat.zero_le _⟩, fun a ha hb => set_far ha⟩
    | some x =>
      rw [hev] at hgW f3
      rw [show lI (Option.map List.length (some x)) = nI x.length from rfl]
      have hval := hval x hev
      rw [f3] at f5
      have f5 : wk (32 * t + i) + wn (32 * t + i) + x.length ≤ 4000 * t + fi t := f5
      have hx : x.length ≤ 1000 := by have := hws e0 (List.mem_of_getElem? hi0); rw [hev] at this; exact this
      refine RQ.blk 2 (pc' := 71) (lv' := [(8, .int (nI x.length)), (7, .int (-1)), (6, .int (nI (32 * t + i))), (0, .ref 196), (1, .int (nI t)), (2, .ref (a + 1)), (3, .int (nI j)), (4, .int (nI m)), (5, .int 1)]) (st' := [.int 1]) (H' := _) (kc' := 0) (ks' := 0) rfl ?_
      refine RQ.brT rfl rfl rfl (by decide) ?_
      refine RQ.blk 1 (pc' := 79) (lv' := [(8, .int (nI x.length)), (7, .int (-1)), (6, .int (nI (32 * t + i))), (0, .ref 196), (1, .int (nI t)), (2, .ref (a + 1)), (3, .int (nI j)), (4, .int (nI m)), (5, .int 1)]) (st' := [.int (nI (32 * t + i))]) (H' := _) (kc' := 0) (ks' := 0) rfl ?_
      refine RQ.brF rfl rfl rfl (cF_lt (32 * t + i) 0) ?_
      refine RQ.blk 1 (pc' := 83) (lv' := [(8, .int (nI x.length)), (7, .int (-1)), (6, .int (nI (32 * t + i))), (0, .ref 196), (1, .int (nI t)), (2, .ref (a + 1)), (3, .int (nI j)), (4, .int (nI m)), (5, .int 1)]) (st' := [.ref 196]) (H' := _) (kc' := 0) (ks' := 0) rfl ?_
      refine RQ.get (ci := 12) rfl hm rfl rfl ?_
      refine RQ.blk 1 (pc' := 88) (lv' := [(8, .int (nI x.length)), (7, .int (-1)), (6, .int (nI (32 * t + i))), (0, .ref 196), (1, .int (nI t)), (2, .ref (a + 1)), (3, .int (nI j)), (4, .int (nI m)), (5, .int 1)]) (st' := [.int (nI (32 * t + i)), .ref 210]) (H' := _) (kc' := 0) (ks' := 0) rfl ?_
      refine RQ.ialdN (j := 32 * t + i) rfl hR.2.2.1 (by omega) (by decide) ?_
      refine RQ.blk 1 (pc' := 90) (lv' := [(8, .int (nI x.length)), (7, .int (-1)), (6, .int (nI (32 * t + i))), (0, .ref 196), (1, .int (nI t)), (2, .ref (a + 1)), (3, .int (nI j)), (4, .int (nI m)), (5, .int 1)]) (st' := [.ref 196, .int (nI (wk (32 * t + i)))]) (H' := _) (kc' := 0) (ks' := 0) rfl ?_
      refine RQ.get (ci := 12) rfl hm rfl rfl ?_
      refine RQ.blk 1 (pc' := 95) (lv' := [(8, .int (nI x.length)), (7, .int (-1)), (6, .int (nI (32 * t + i))), (0, .ref 196), (1, .int (nI t)), (2, .ref (a + 1)), (3, .int (nI j)), (4, .int (nI m)), (5, .int 1)]) (st' := [.int (nI (32 * t + i)), .ref 211, .int (nI (wk (32 * t + i)))]) (H' := _) (kc' := 0) (ks' := 0) rfl ?_
      refine RQ.ialdN (j := 32 * t + i) rfl hR.2.2.2.1 (by omega) (by decide) ?_
      refine RQ.blk 1 (pc' := 97) (lv' := [(8, .int (nI x.length)), (7, .int (-1)), (6, .int (nI (32 * t + i))), (0, .ref 196), (1, .int (nI t)), (2, .ref (a + 1)), (3, .int (nI j)), (4, .int (nI m)), (5, .int 1)]) (st' := [.int (nI (wk (32 * t + i)) + nI (wn (32 * t + i)))]) (H' := _) (kc' := 0) (ks' := 0) rfl ?_
      rw [show (nI (wk (32 * t + i)) + nI (wn (32 * t + i)) : Int32) = nI (wk (32 * t + i) + (wn (32 * t + i))) from nI_add (wk (32 * t + i)) (wn (32 * t + i))]
      refine RQ.blk 4 (pc' := 121) (lv' := [(10, .int 0), (9, .int (nI (wk (32 * t + i) + (wn (32 * t + i))))), (8, .int (nI x.length)), (7, .int (-1)), (6, .int (nI (32 * t + i))), (0, .ref 196), (1, .int (nI t)), (2, .ref (a + 1)), (3, .int (nI j)), (4, .int (nI m)), (5, .int 1)]) (st' := []) (H' := _) (kc' := 0) (ks' := 0) rfl ?_
      refine RQ.pick (a := [(10, .int 0), (9, .int (nI (wk (32 * t + i) + (wn (32 * t + i))))), (8, .int (nI x.length)), (7, .int (-1)), (6, .int (nI (32 * t + i))), (0, .ref 196)]) [0, 1, 2, 3, 4, 5] [10, 9, 8, 7, 6, 0, 1, 2, 3, 4, 5] rfl rfl (by decide) ?_
      refine rq_tellW (fr := wk (32 * t + i) + wn (32 * t + i)) (n := x.length) (r := 32 * t + i) hm hR.2.2.2.2.2 h197 hx (by omega) (by omega) ?_
      refine RQ.blk 2 (pc' := 172) (lv' := [(10, .int (nI x.length)), (9, .int (nI (wk (32 * t + i) + (wn (32 * t + i))))), (8, .int (nI x.length)), (7, .int (-1)), (6, .int (nI (32 * t + i))), (0, .ref 196)]) (st' := [.int (nI x.length), .ref 196]) (H' := _) (kc' := 0) (ks' := 0) rfl ?_
      refine RQ.brT rfl rfl rfl (cT_ge x.length 0) ?_
      refine RQ.blk 1 (pc' := 181) (lv' := [(10, .int (nI x.length)), (9, .int (nI (wk (32 * t + i) + (wn (32 * t + i))))), (8, .int (nI x.length)), (7, .int (-1)), (6, .int (nI (32 * t + i))), (0, .ref 196)]) (st' := [.int (nI x.length), .ref 196]) (H' := _) (kc' := 0) (ks' := 0) rfl ?_
      refine RQ.put (ci := 12) rfl ((set_far (by decide)).trans hm) rfl rfl (Nat.le_of_ble_eq_true rfl) ?_
      refine RQ.blk 1 (pc' := 186) (lv' := [(10, .int (nI x.length)), (9, .int (nI (wk (32 * t + i) + (wn (32 * t + i))))), (8, .int (nI x.length)), (7, .int (-1)), (6, .int (nI (32 * t + i))), (0, .ref 196)]) (st' := [.int (nI x.length)]) (H' := _) (kc' := 0) (ks' := 0) rfl ?_
      exact RQ.done (c := 0) (s := 0) rfl rfl rfl rfl ⟨_, _, rfl, some x, hgW.symm, rfl, get_set ((set_far (by decide)).trans hm), ⟨_, (set_far (by decide)).trans (get_set h197), by rw [show (Option.getD (some x) []).length = x.length from rfl, sl_cpy]; exact hval, hx⟩, fun a ha hb => (set_far ha).trans (set_far hb)⟩
