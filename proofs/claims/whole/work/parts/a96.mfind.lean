/-! ===== find of the reference, every end; written by wip/gen/refi11.py ===== -/
/-- where the name that begins at i ends -/
def spT (tb : Nat → Int8) (l i : Nat) : Nat := (fstF (fun j => decide ((tb j).toInt32 = 47)) i (l - i)).getD l
/-- the way of a path from the node v on -/
def fnF (kd pa nl : Nat → Nat) (nm tb : Nat → Int8) (l : Nat) : Nat → Nat → Nat → Option Nat
  | 0, v, _ => some v
  | n + 1, v, i => if l < i then some v else match (if kd v = 2 then fstF (inN kd pa nl nm v (sl tb i (spT tb l i - i))) 1 200 else none) with
    | some c => fnF kd pa nl nm tb l n c (spT tb l i + 1)
    | none => none
theorem spT_le {tb : Nat → Int8} {l i : Nat} (h : i ≤ l) : i ≤ spT tb l i ∧ spT tb l i ≤ l := by
  unfold spT
  cases e : fstF (fun j => decide ((tb j).toInt32 = 47)) i (l - i) with
  | none => exact ⟨h, Nat.le_refl _⟩
  | some j =>
    have := fstF_lt e
    show i ≤ j ∧ j ≤ l
    omega
theorem rq_mslash {sc : Nat × (Nat → Int32)} {d v l i : Nat} {H : aH} {fs : List Value} {tb : Nat → Int8} {Q : _ → Prop} (hm : H[195]? = some (kO 12 fs)) (hk : fs[5]? = some (.ref 197)) (hK : H[196]? = some (kB 2000 tb)) (hl : l ≤ 2000) (hi : i ≤ l) (K : RQ sc d mr_321 70 [(4, .int (nI (spT tb l i))), (3, .int (nI i)), (2, .int (nI v)), (0, .ref 196), (1, .int (nI l))] [] H 0 0 Q) : RQ sc d mr_321 46 [(4, .int (nI i)), (3, .int (nI i)), (2, .int (nI v)), (0, .ref 196), (1, .int (nI l))] [] H 0 0 Q := by
  refine RQ.while (S := Nat) (pc := 46) (fun j H' => i ≤ j ∧ j ≤ l ∧ fstF (fun j => decide ((tb j).toInt32 = 47)) i (l - i) = fstF (fun j => decide ((tb j).toInt32 = 47)) j (l - j) ∧ H' = H) (fun j => [(4, .int (nI j)), (3, .int (nI i)), (2, .int (nI v)), (0, .ref 196), (1, .int (nI l))]) (fun j => l - j) ?_ i H ⟨Nat.le_refl _, hi, rfl, rfl⟩
  rintro j H1 ⟨hj1, hj2, he, eH⟩ ih
  rw [eH]
  by_cases hjl : j < l
  ·
    refine RQ.blk 2 (pc' := 49) (lv' := [(4, .int (nI j)), (3, .int (nI i)), (2, .int (nI v)), (0, .ref 196), (1, .int (nI l))]) (st' := [.int (nI l), .int (nI j)]) (H' := _) (kc' := 0) (ks' := 0) rfl ?_
    refine RQ.brF rfl rfl rfl (cF_ge j l) ?_
    refine RQ.blk 1 (pc' := 53) (lv' := [(4, .int (nI j)), (3, .int (nI i)), (2, .int (nI v)), (0, .ref 196), (1, .int (nI l))]) (st' := [.ref 196]) (H' := _) (kc' := 0) (ks' := 0) rfl ?_
    refine RQ.get (ci := 12) rfl hm rfl hk ?_
    refine RQ.blk 1 (pc' := 58) (lv' := [(4, .int (nI j)), (3, .int (nI i)), (2, .int (nI v)), (0, .ref 196), (1, .int (nI l))]) (st' := [.int (nI j), .ref 197]) (H' := _) (kc' := 0) (ks' := 0) rfl ?_
    refine RQ.baldN (j := j) rfl hK (by omega) (by decide) ?_
    refine RQ.blk 1 (pc' := 61) (lv' := [(4, .int (nI j)), (3, .int (nI i)), (2, .int (nI v)), (0, .ref 196), (1, .int (nI l))]) (st' := [.int 47, .int ((tb j).toInt32)]) (H' := _) (kc' := 0) (ks' := 0) rfl ?_
    by_cases kz : (tb j).toInt32 = 47
    · refine RQ.brT rfl rfl rfl (decide_eq_true kz) ?_
      have hf : spT tb l i = j := by unfold spT; rw [he, fstF_hit (by omega) (decide_eq_true kz)]; rfl
      rw [hf] at K
      exact K
    · refine RQ.brF rfl rfl rfl (decide_eq_false kz) ?_
      refine RQ.blk 1 (pc' := 67) (lv' := [(4, .int (nI j + 1)), (3, .int (nI i)), (2, .int (nI v)), (0, .ref 196), (1, .int (nI l))]) (st' := []) (H' := _) (kc' := 0) (ks' := 0) rfl ?_
      rw [show (nI j + 1 : Int32) = nI (j + 1) from nI_add j 1]
      refine RQ.blk 1 (pc' := 46) (lv' := [(4, .int (nI (j + 1))), (3, .int (nI i)), (2, .int (nI v)), (0, .ref 196), (1, .int (nI l))]) (st' := []) (H' := _) (kc' := 0) (ks' := 0) rfl ?_
      exact ih (j + 1) _ ⟨by omega, by omega, by rw [he, fstF_miss (by omega) (decide_eq_false kz), show l - j - 1 = l - (j + 1) by omega], rfl⟩ (by omega)
  ·
    refine RQ.blk 2 (pc' := 49) (lv' := [(4, .int (nI j)), (3, .int (nI i)), (2, .int (nI v)), (0, .ref 196), (1, .int (nI l))]) (st' := [.int (nI l), .int (nI j)]) (H' := _) (kc' := 0) (ks' := 0) rfl ?_
    refine RQ.brT rfl rfl rfl (cT_ge j l) ?_
    have hf : spT tb l i = j := by unfold spT; rw [he, show l - j = 0 by omega]; show l = j; omega
    rw [hf] at K
    exact K
set_option maxRecDepth 20000 in
theorem ri_mfind_down {sc : Nat × (Nat → Int32)} {d l : Nat} {H : aH} {fa cw cl rs : Int32} {li : Nat} {tb : Nat → Int8} {g0 : Nat → Int8} {p : Nat} {ms : List aMV} {op : Nat → Bool} {se : Nat → Nat} {wss : Nat → List aE} {kd pa sz nl : Nat → Nat} {nm : Nat → Int8} {ps : List aPc}  (h : RefI H fa li 1 cw cl tb l rs g0 p ms op se wss kd pa sz nl nm ps) (hk : RefOk l p ms se kd pa sz nl ps)  : RI sc (d + 5) mr_321 [.ref 196] H (fun x H' => x = 0 ∧ RefI H' 1 li 1 cw cl tb l rs g0 p ms op se wss kd pa sz nl nm ps ∧ ∀ a, ¬ (195 ≤ a ∧ a < 224) → H'[a]? = H[a]?) := by
  obtain ⟨us, ba, bo, hm, hV, h5, h6, hR, hT, hP, h196, h197⟩ := h
  obtain ⟨k1, k2, k3, k4, k5, k6, k7, k8⟩ := hk
  refine RI.of ?_
  refine RQ.blk 2 (pc' := 2) (lv' := [(0, .ref 196)]) (st' := [.int 0, .ref 196]) (H' := _) (kc' := 0) (ks' := 0) rfl ?_
  refine RQ.put (ci := 12) rfl hm rfl rfl (Nat.le_of_ble_eq_true rfl) ?_
  have hm1 : (H.set 195 (kO 12 (mfs 0 (nI li) 1 cw cl (nI l) rs (nI p) (nI ms.length) (nI us) (nI ps.length) (nI (plen ps)) ba bo)))[195]? = some (kO 12 (mfs 0 (nI li) 1 cw cl (nI l) rs (nI p) (nI ms.length) (nI us) (nI ps.length) (nI (plen ps)) ba bo)) := get_set hm
  have f1 : ∀ a, a ≠ 195 → (H.set 195 (kO 12 (mfs 0 (nI li) 1 cw cl (nI l) rs (nI p) (nI ms.length) (nI us) (nI ps.length) (nI (plen ps)) ba bo)))[a]? = H[a]? := fun a ha => set_far ha
  show RQ _ _ _ 5 [(0, .ref 196)] [] (H.set 195 (kO 12 (mfs 0 (nI li) 1 cw cl (nI l) rs (nI p) (nI ms.length) (nI us) (nI ps.length) (nI (plen ps)) ba bo))) 0 0 _
  generalize (H.set 195 (kO 12 (mfs 0 (nI li) 1 cw cl (nI l) rs (nI p) (nI ms.length) (nI us) (nI ps.length) (nI (plen ps)) ba bo))) = H1 at hm1 f1 ⊢
  have hV1 := hV.far (fun a a1 a2 => f1 a (by omega)) (f1 223 (by decide))
  have h51 := (f1 205 (by decide)).trans h5
  have h61 := (f1 206 (by decide)).trans h6
  have hR1 := hR.far (fun a a1 => f1 a (by omega))
  have hT1 := hT.far (fun a a1 a2 => f1 a (by omega))
  have hP1 := hP.far (fun a a1 a2 => f1 a (by omega))
  have h1961 := (f1 196 (by decide)).trans h196
  have h1971 := (f1 197 (by decide)).trans h197
  refine RQ.blk 1 (pc' := 6) (lv' := [(0, .ref 196)]) (st' := [.ref 196]) (H' := _) (kc' := 0) (ks' := 0) rfl ?_
  refine RQ.get (ci := 12) rfl hm1 rfl rfl ?_
  refine RQ.brF rfl rfl rfl (by decide) ?_
  refine RQ.blk 2 (pc' := 14) (lv' := [(0, .ref 196)]) (st' := [.int 1, .ref 196]) (H' := _) (kc' := 0) (ks' := 0) rfl ?_
  refine RQ.call (v := some (.int 0)) (st' := []) rfl rfl rfl rfl rfl rfl (args_v [.int 1] [] rfl rfl (Nat.le_of_ble_eq_true rfl) rfl hm1 (Nat.le_of_ble_eq_true rfl)) (rc_mfail hm1 rfl) ?_
  exact RQ.done (c := 0) (s := 0) rfl rfl rfl rfl ⟨_, _, rfl, rfl, ⟨us, ba, bo, get_set hm1, hV1.far (fun a a1 a2 => set_far (by omega)) (set_far (by decide)), (set_far (by decide)).trans h51, (set_far (by decide)).trans h61, hR1.far (fun a a1 => set_far (by omega)), hT1.far (fun a a1 a2 => set_far (by omega)), hP1.far (fun a a1 a2 => set_far (by omega)), (set_far (by decide)).trans h1961, (set_far (by decide)).trans h1971⟩, fun a ha => (set_far (by omega)).trans (f1 a (by omega))⟩
set_option maxRecDepth 20000 in
theorem ri_mfind_root {sc : Nat × (Nat → Int32)} {d l : Nat} {H : aH} {fa cw cl rs : Int32} {li : Nat} {tb : Nat → Int8} {g0 : Nat → Int8} {p : Nat} {ms : List aMV} {op : Nat → Bool} {se : Nat → Nat} {wss : Nat → List aE} {kd pa sz nl : Nat → Nat} {nm : Nat → Int8} {ps : List aPc}  (h : RefI H fa li 0 cw cl tb l rs g0 p ms op se wss kd pa sz nl nm ps) (hk : RefOk l p ms se kd pa sz nl ps) (hl0 : l = 0) : RI sc (d + 5) mr_321 [.ref 196] H (fun x H' => x = 0 ∧ RefI H' 0 li 0 cw cl tb 0 rs g0 p ms op se wss kd pa sz nl nm ps ∧ ∀ a, ¬ (195 ≤ a ∧ a < 224) → H'[a]? = H[a]?) := by
  obtain ⟨us, ba, bo, hm, hV, h5, h6, hR, hT, hP, h196, h197⟩ := h
  obtain ⟨k1, k2, k3, k4, k5, k6, k7, k8⟩ := hk
  refine RI.of ?_
  refine RQ.blk 2 (pc' := 2) (lv' := [(0, .ref 196)]) (st' := [.int 0, .ref 196]) (H' := _) (kc' := 0) (ks' := 0) rfl ?_
  refine RQ.put (ci := 12) rfl hm rfl rfl (Nat.le_of_ble_eq_true rfl) ?_
  have hm1 : (H.set 195 (kO 12 (mfs 0 (nI li) 0 cw cl (nI l) rs (nI p) (nI ms.length) (nI us) (nI ps.length) (nI (plen ps)) ba bo)))[195]? = some (kO 12 (mfs 0 (nI li) 0 cw cl (nI l) rs (nI p) (nI ms.length) (nI us) (nI ps.length) (nI (plen ps)) ba bo)) := get_set hm
  have f1 : ∀ a, a ≠ 195 → (H.set 195 (kO 12 (mfs 0 (nI li) 0 cw cl (nI l) rs (nI p) (nI ms.length) (nI us) (nI ps.length) (nI (plen ps)) ba bo)))[a]? = H[a]? := fun a ha => set_far ha
  show RQ _ _ _ 5 [(0, .ref 196)] [] (H.set 195 (kO 12 (mfs 0 (nI li) 0 cw cl (nI l) rs (nI p) (nI ms.length) (nI us) (nI ps.length) (nI (plen ps)) ba bo))) 0 0 _
  generalize (H.set 195 (kO 12 (mfs 0 (nI li) 0 cw cl (nI l) rs (nI p) (nI ms.length) (nI us) (nI ps.length) (nI (plen ps)) ba bo))) = H1 at hm1 f1 ⊢
  have hV1 := hV.far (fun a a1 a2 => f1 a (by omega)) (f1 223 (by decide))
  have h51 := (f1 205 (by decide)).trans h5
  have h61 := (f1 206 (by decide)).trans h6
  have hR1 := hR.far (fun a a1 => f1 a (by omega))
  have hT1 := hT.far (fun a a1 a2 => f1 a (by omega))
  have hP1 := hP.far (fun a a1 a2 => f1 a (by omega))
  have h1961 := (f1 196 (by decide)).trans h196
  have h1971 := (f1 197 (by decide)).trans h197
  refine RQ.blk 1 (pc' := 6) (lv' := [(0, .ref 196)]) (st' := [.ref 196]) (H' := _) (kc' := 0) (ks' := 0) rfl ?_
  refine RQ.get (ci := 12) rfl hm1 rfl rfl ?_
  refine RQ.brT rfl rfl rfl (by decide) ?_
  refine RQ.blk 1 (pc' := 19) (lv' := [(0, .ref 196)]) (st' := [.ref 196]) (H' := _) (kc' := 0) (ks' := 0) rfl ?_
  refine RQ.get (ci := 12) rfl hm1 rfl rfl ?_
  refine RQ.blk 3 (pc' := 25) (lv' := [(1, .int (nI l)), (0, .ref 196)]) (st' := [.int 0, .ref 196]) (H' := _) (kc' := 0) (ks' := 0) rfl ?_
  refine RQ.put (ci := 12) rfl hm1 rfl rfl (Nat.le_of_ble_eq_true rfl) ?_
  have hm2 : (H1.set 195 (kO 12 (mfs 0 (nI li) 0 cw cl (nI 0) rs (nI p) (nI ms.length) (nI us) (nI ps.length) (nI (plen ps)) ba bo)))[195]? = some (kO 12 (mfs 0 (nI li) 0 cw cl (nI 0) rs (nI p) (nI ms.length) (nI us) (nI ps.length) (nI (plen ps)) ba bo)) := get_set hm1
  have f2 : ∀ a, a ≠ 195 → (H1.set 195 (kO 12 (mfs 0 (nI li) 0 cw cl (nI 0) rs (nI p) (nI ms.length) (nI us) (nI ps.length) (nI (plen ps)) ba bo)))[a]? = H[a]? := fun a ha => (set_far ha).trans (f1 a ha)
  show RQ _ _ _ 28 [(1, .int (nI l)), (0, .ref 196)] [] (H1.set 195 (kO 12 (mfs 0 (nI li) 0 cw cl (nI 0) rs (nI p) (nI ms.length) (nI us) (nI ps.length) (nI (plen ps)) ba bo))) 0 0 _
  generalize (H1.set 195 (kO 12 (mfs 0 (nI li) 0 cw cl (nI 0) rs (nI p) (nI ms.length) (nI us) (nI ps.length) (nI (plen ps)) ba bo))) = H2 at hm2 f2 ⊢
  clear hm1 f1 hV1 h51 h61 hR1 hT1 hP1 h1961 h1971
  have hm1 := hm2
  have f1 := f2
  clear hm2 f2
  have hV1 := hV.far (fun a a1 a2 => f1 a (by omega)) (f1 223 (by decide))
  have h51 := (f1 205 (by decide)).trans h5
  have h61 := (f1 206 (by decide)).trans h6
  have hR1 := hR.far (fun a a1 => f1 a (by omega))
  have hT1 := hT.far (fun a a1 a2 => f1 a (by omega))
  have hP1 := hP.far (fun a a1 a2 => f1 a (by omega))
  have h1961 := (f1 196 (by decide)).trans h196
  have h1971 := (f1 197 (by decide)).trans h197
  refine RQ.blk 1 (pc' := 29) (lv' := [(1, .int (nI l)), (0, .ref 196)]) (st' := [.int (nI l)]) (H' := _) (kc' := 0) (ks' := 0) rfl ?_
  refine RQ.brF rfl rfl rfl (cF_ne l 0) ?_
  refine RQ.blk 1 (pc' := 33) (lv' := [(1, .int (nI l)), (0, .ref 196)]) (st' := [.int 0]) (H' := _) (kc' := 0) (ks' := 0) rfl ?_
  exact RQ.done (c := 0) (s := 0) rfl rfl rfl rfl ⟨_, _, rfl, rfl, ⟨us, ba, bo, hm1, hV1, h51, h61, hR1, hT1, hP1, h1961, h1971⟩, fun a ha => f1 a (by omega)⟩
theorem fnF_fuel {kd pa nl : Nat → Nat} {nm tb : Nat → Int8} {l : Nat} : ∀ {n m v i : Nat}, l + 2 ≤ n + i → l + 2 ≤ m + i → fnF kd pa nl nm tb l n v i = fnF kd pa nl nm tb l m v i
  | 0, 0, _, _, _, _ => rfl
  | 0, m + 1, v, i, h1, _ => by rw [fnF, fnF, if_pos (by omega)]
  | n + 1, 0, v, i, _, h2 => by rw [fnF, fnF, if_pos (by omega)]
  | n + 1, m + 1, v, i, h1, h2 => by
    rw [fnF, fnF]
    by_cases c : l < i
    · rw [if_pos c, if_pos c]
    · rw [if_neg c, if_neg c]
      have hs := spT_le (tb := tb) (show i ≤ l by omega)
      split
      · exact fnF_fuel (by omega) (by omega)
      · rfl
set_option maxRecDepth 20000 in
theorem ri_mfind_ok {sc : Nat × (Nat → Int32)} {d l : Nat} {H : aH} {fa cw cl rs : Int32} {li : Nat} {tb : Nat → Int8} {g0 : Nat → Int8} {p : Nat} {ms : List aMV} {op : Nat → Bool} {se : Nat → Nat} {wss : Nat → List aE} {kd pa sz nl : Nat → Nat} {nm : Nat → Int8} {ps : List aPc} {r : Nat} (h : RefI H fa li 0 cw cl tb l rs g0 p ms op se wss kd pa sz nl nm ps) (hk : RefOk l p ms se kd pa sz nl ps) (hl0 : 1 ≤ l) (hfn : fnF kd pa nl nm tb l (l + 2) 0 0 = some r) : RI sc (d + 5) mr_321 [.ref 196] H (fun x H' => x = nI r ∧ RefI H' 0 li 0 cw cl tb 0 rs g0 p ms op se wss kd pa sz nl nm ps ∧ ∀ a, ¬ (195 ≤ a ∧ a < 224) → H'[a]? = H[a]?) := by
  obtain ⟨us, ba, bo, hm, hV, h5, h6, hR, hT, hP, h196, h197⟩ := h
  obtain ⟨k1, k2, k3, k4, k5, k6, k7, k8⟩ := hk
  refine RI.of ?_
  refine RQ.blk 2 (pc' := 2) (lv' := [(0, .ref 196)]) (st' := [.int 0, .ref 196]) (H' := _) (kc' := 0) (ks' := 0) rfl ?_
  refine RQ.put (ci := 12) rfl hm rfl rfl (Nat.le_of_ble_eq_true rfl) ?_
  have hm1 : (H.set 195 (kO 12 (mfs 0 (nI li) 0 cw cl (nI l) rs (nI p) (nI ms.length) (nI us) (nI ps.length) (nI (plen ps)) ba bo)))[195]? = some (kO 12 (mfs 0 (nI li) 0 cw cl (nI l) rs (nI p) (nI ms.length) (nI us) (nI ps.length) (nI (plen ps)) ba bo)) := get_set hm
  have f1 : ∀ a, a ≠ 195 → (H.set 195 (kO 12 (mfs 0 (nI li) 0 cw cl (nI l) rs (nI p) (nI ms.length) (nI us) (nI ps.length) (nI (plen ps)) ba bo)))[a]? = H[a]? := fun a ha => set_far ha
  show RQ _ _ _ 5 [(0, .ref 196)] [] (H.set 195 (kO 12 (mfs 0 (nI li) 0 cw cl (nI l) rs (nI p) (nI ms.length) (nI us) (nI ps.length) (nI (plen ps)) ba bo))) 0 0 _
  generalize (H.set 195 (kO 12 (mfs 0 (nI li) 0 cw cl (nI l) rs (nI p) (nI ms.length) (nI us) (nI ps.length) (nI (plen ps)) ba bo))) = H1 at hm1 f1 ⊢
  have hV1 := hV.far (fun a a1 a2 => f1 a (by omega)) (f1 223 (by decide))
  have h51 := (f1 205 (by decide)).trans h5
  have h61 := (f1 206 (by decide)).trans h6
  have hR1 := hR.far (fun a a1 => f1 a (by omega))
  have hT1 := hT.far (fun a a1 a2 => f1 a (by omega))
  have hP1 := hP.far (fun a a1 a2 => f1 a (by omega))
  have h1961 := (f1 196 (by decide)).trans h196
  have h1971 := (f1 197 (by decide)).trans h197
  refine RQ.blk 1 (pc' := 6) (lv' := [(0, .ref 196)]) (st' := [.ref 196]) (H' := _) (kc' := 0) (ks' := 0) rfl ?_
  refine RQ.get (ci := 12) rfl hm1 rfl rfl ?_
  refine RQ.brT rfl rfl rfl (by decide) ?_
  refine RQ.blk 1 (pc' := 19) (lv' := [(0, .ref 196)]) (st' := [.ref 196]) (H' := _) (kc' := 0) (ks' := 0) rfl ?_
  refine RQ.get (ci := 12) rfl hm1 rfl rfl ?_
  refine RQ.blk 3 (pc' := 25) (lv' := [(1, .int (nI l)), (0, .ref 196)]) (st' := [.int 0, .ref 196]) (H' := _) (kc' := 0) (ks' := 0) rfl ?_
  refine RQ.put (ci := 12) rfl hm1 rfl rfl (Nat.le_of_ble_eq_true rfl) ?_
  have hm2 : (H1.set 195 (kO 12 (mfs 0 (nI li) 0 cw cl (nI 0) rs (nI p) (nI ms.length) (nI us) (nI ps.length) (nI (plen ps)) ba bo)))[195]? = some (kO 12 (mfs 0 (nI li) 0 cw cl (nI 0) rs (nI p) (nI ms.length) (nI us) (nI ps.length) (nI (plen ps)) ba bo)) := get_set hm1
  have f2 : ∀ a, a ≠ 195 → (H1.set 195 (kO 12 (mfs 0 (nI li) 0 cw cl (nI 0) rs (nI p) (nI ms.length) (nI us) (nI ps.length) (nI (plen ps)) ba bo)))[a]? = H[a]? := fun a ha => (set_far ha).trans (f1 a ha)
  show RQ _ _ _ 28 [(1, .int (nI l)), (0, .ref 196)] [] (H1.set 195 (kO 12 (mfs 0 (nI li) 0 cw cl (nI 0) rs (nI p) (nI ms.length) (nI us) (nI ps.length) (nI (plen ps)) ba bo))) 0 0 _
  generalize (H1.set 195 (kO 12 (mfs 0 (nI li) 0 cw cl (nI 0) rs (nI p) (nI ms.length) (nI us) (nI ps.length) (nI (plen ps)) ba bo))) = H2 at hm2 f2 ⊢
  clear hm1 f1 hV1 h51 h61 hR1 hT1 hP1 h1961 h1971
  have hm1 := hm2
  have f1 := f2
  clear hm2 f2
  have hV1 := hV.far (fun a a1 a2 => f1 a (by omega)) (f1 223 (by decide))
  have h51 := (f1 205 (by decide)).trans h5
  have h61 := (f1 206 (by decide)).trans h6
  have hR1 := hR.far (fun a a1 => f1 a (by omega))
  have hT1 := hT.far (fun a a1 a2 => f1 a (by omega))
  have hP1 := hP.far (fun a a1 a2 => f1 a (by omega))
  have h1961 := (f1 196 (by decide)).trans h196
  have h1971 := (f1 197 (by decide)).trans h197
  refine RQ.blk 1 (pc' := 29) (lv' := [(1, .int (nI l)), (0, .ref 196)]) (st' := [.int (nI l)]) (H' := _) (kc' := 0) (ks' := 0) rfl ?_
  refine RQ.brT rfl rfl rfl (cT_ne l 0) ?_
  refine RQ.blk 4 (pc' := 38) (lv' := [(3, .int 0), (2, .int 0), (1, .int (nI l)), (0, .ref 196)]) (st' := []) (H' := _) (kc' := 0) (ks' := 0) rfl ?_
  refine RQ.pick (a := [(3, .int 0), (2, .int 0), (0, .ref 196), (1, .int (nI l))]) [0, 1, 3, 2] [3, 2, 1, 0] rfl rfl (by decide) ?_
  refine RQ.while (S := Nat × Nat) (pc := 38) (fun s H' => s.1 ≤ 200 ∧ s.2 ≤ l + 1 ∧ fnF kd pa nl nm tb l (l + 2 - s.2) s.1 s.2 = some r ∧ H' = H2) (fun s => [(3, .int (nI s.2)), (2, .int (nI s.1)), (0, .ref 196), (1, .int (nI l))]) (fun s => l + 1 - s.2) ?_ (0, 0) H2 ⟨Nat.zero_le _, Nat.zero_le _, hfn, rfl⟩
  rintro ⟨v, i⟩ H3 ⟨hv, hi, he, eH⟩ ih
  dsimp only at hv hi he ⊢
  rw [eH]
  by_cases hil : i ≤ l
  ·
    have hsp := spT_le (tb := tb) hil
    have hkv := k5 v hv
    rw [show l + 2 - i = l + 1 - i + 1 by omega, fnF, if_neg (by omega)] at he
    refine RQ.blk 2 (pc' := 40) (lv' := [(3, .int (nI i)), (2, .int (nI v)), (0, .ref 196), (1, .int (nI l))]) (st' := [.int (nI l), .int (nI i)]) (H' := _) (kc' := 0) (ks' := 0) rfl ?_
    refine RQ.brF rfl rfl rfl (cF_gt i l) ?_
    refine RQ.blk 2 (pc' := 46) (lv' := [(4, .int (nI i)), (3, .int (nI i)), (2, .int (nI v)), (0, .ref 196), (1, .int (nI l))]) (st' := []) (H' := _) (kc' := 0) (ks' := 0) rfl ?_
    refine RQ.pick (a := [(4, .int (nI i)), (3, .int (nI i)), (2, .int (nI v)), (0, .ref 196), (1, .int (nI l))]) [0, 1, 2, 3, 4] [4, 3, 2, 0, 1] rfl rfl (by decide) ?_
    refine rq_mslash hm1 rfl h1961 k1 hil ?_
    refine RQ.blk 2 (pc' := 72) (lv' := [(4, .int (nI (spT tb l i))), (3, .int (nI i)), (2, .int (nI v)), (0, .ref 196), (1, .int (nI l))]) (st' := [.int (nI v), .ref 196]) (H' := _) (kc' := 0) (ks' := 0) rfl ?_
    by_cases kz : kd v = 2
    · rw [if_pos kz] at he
      refine RQ.call (v := some (.int 1)) (st' := []) rfl rfl rfl rfl rfl rfl (args_v [.int (nI v)] [] rfl rfl (Nat.le_of_ble_eq_true rfl) rfl hm1 (Nat.le_of_ble_eq_true rfl)) (rc_mdirT hm1 rfl hT1.1 hv (nI_is2 kz)) ?_
      refine RQ.brF rfl rfl rfl (by decide) ?_
      refine RQ.blk 6 (pc' := 85) (lv' := [(4, .int (nI (spT tb l i))), (3, .int (nI i)), (2, .int (nI v)), (0, .ref 196), (1, .int (nI l))]) (st' := [.int (nI (spT tb l i) - nI i), .int (nI i), .int (nI v), .ref 196]) (H' := _) (kc' := 0) (ks' := 0) rfl ?_
      rw [show (nI (spT tb l i) - nI i : Int32) = nI ((spT tb l i) - i) from pk_sub (a := (spT tb l i)) (b := i) (by omega)]
      cases hc : fstF (inN kd pa nl nm v (sl tb i (spT tb l i - i))) 1 200 with
      | none =>
        rw [hc] at he
        dsimp only at he
        have hch := rc_mchild (sc := sc) (d := d + 3) (j := i) (m := spT tb l i - i) hm1 hT1 k5 h1961 (by omega) hv
        rw [hc] at hch
        refine RQ.call (v := some (.int (-1))) (st' := []) rfl rfl rfl rfl rfl rfl (args_v [.int (nI ((spT tb l i) - i)), .int (nI i), .int (nI v)] [] rfl rfl (Nat.le_of_ble_eq_true rfl) rfl hm1 (Nat.le_of_ble_eq_true rfl)) hch ?_
        refine RQ.blk 3 (pc' := 94) (lv' := [(2, .int (-1)), (4, .int (nI (spT tb l i))), (3, .int (nI i)), (0, .ref 196), (1, .int (nI l))]) (st' := [.int (-1)]) (H' := _) (kc' := 0) (ks' := 0) rfl ?_
        exact absurd he (by intro e; cases e)
      | some c =>
        rw [hc] at he
        dsimp only at he
        have hch := rc_mchild (sc := sc) (d := d + 3) (j := i) (m := spT tb l i - i) hm1 hT1 k5 h1961 (by omega) hv
        rw [hc] at hch
        have hcl := fstF_lt hc
        refine RQ.call (v := some (.int (nI c))) (st' := []) rfl rfl rfl rfl rfl rfl (args_v [.int (nI ((spT tb l i) - i)), .int (nI i), .int (nI v)] [] rfl rfl (Nat.le_of_ble_eq_true rfl) rfl hm1 (Nat.le_of_ble_eq_true rfl)) hch ?_
        refine RQ.blk 3 (pc' := 94) (lv' := [(2, .int (nI c)), (4, .int (nI (spT tb l i))), (3, .int (nI i)), (0, .ref 196), (1, .int (nI l))]) (st' := [.int (nI c)]) (H' := _) (kc' := 0) (ks' := 0) rfl ?_
        refine RQ.brT rfl rfl rfl (cT_ge c 0) ?_
        refine RQ.blk 3 (pc' := 107) (lv' := [(2, .int (nI c)), (4, .int (nI (spT tb l i))), (3, .int (nI i)), (0, .ref 196), (1, .int (nI l))]) (st' := [.int (nI (spT tb l i) + 1)]) (H' := _) (kc' := 0) (ks' := 0) rfl ?_
        rw [show (nI (spT tb l i) + 1 : Int32) = nI ((spT tb l i) + 1) from nI_add (spT tb l i) 1]
        refine RQ.blk 2 (pc' := 38) (lv' := [(3, .int (nI ((spT tb l i) + 1))), (2, .int (nI c)), (4, .int (nI (spT tb l i))), (0, .ref 196), (1, .int (nI l))]) (st' := []) (H' := _) (kc' := 0) (ks' := 0) rfl ?_
        refine RQ.pick (a := [(3, .int (nI ((spT tb l i) + 1))), (2, .int (nI c)), (0, .ref 196), (1, .int (nI l))]) [0, 1, 3, 4] [3, 2, 4, 0, 1] rfl rfl (by decide) ?_
        exact ih (c, spT tb l i + 1) _ ⟨by show c ≤ 200; omega, by show spT tb l i + 1 ≤ l + 1; omega, by show fnF kd pa nl nm tb l (l + 2 - (spT tb l i + 1)) c (spT tb l i + 1) = _; rw [← he]; exact fnF_fuel (by omega) (by omega), rfl⟩ (by show l + 1 - (spT tb l i + 1) < l + 1 - i; omega)
    · rw [if_neg kz] at he
      refine RQ.call (v := some (.int 0)) (st' := []) rfl rfl rfl rfl rfl rfl (args_v [.int (nI v)] [] rfl rfl (Nat.le_of_ble_eq_true rfl) rfl hm1 (Nat.le_of_ble_eq_true rfl)) (rc_mdirF hm1 rfl hT1.1 hv (nI_ne2 hkv.1 kz)) ?_
      refine RQ.brT rfl rfl rfl (by decide) ?_
      refine RQ.blk 3 (pc' := 94) (lv' := [(2, .int (-1)), (4, .int (nI (spT tb l i))), (3, .int (nI i)), (0, .ref 196), (1, .int (nI l))]) (st' := [.int (-1)]) (H' := _) (kc' := 0) (ks' := 0) rfl ?_
      exact absurd he (by intro e; cases e)
  ·
    rw [show l + 2 - i = l + 1 - i + 1 by omega, fnF, if_pos (by omega)] at he
    refine RQ.blk 2 (pc' := 40) (lv' := [(3, .int (nI i)), (2, .int (nI v)), (0, .ref 196), (1, .int (nI l))]) (st' := [.int (nI l), .int (nI i)]) (H' := _) (kc' := 0) (ks' := 0) rfl ?_
    refine RQ.brT rfl rfl rfl (cT_gt i l) ?_
    refine RQ.blk 1 (pc' := 112) (lv' := [(3, .int (nI i)), (2, .int (nI v)), (0, .ref 196), (1, .int (nI l))]) (st' := [.int (nI v)]) (H' := _) (kc' := 0) (ks' := 0) rfl ?_
    exact RQ.done (c := 0) (s := 0) rfl rfl rfl rfl ⟨_, _, rfl, (by rw [Option.some.inj he]), ⟨us, ba, bo, hm1, hV1, h51, h61, hR1, hT1, hP1, h1961, h1971⟩, fun a ha => f1 a (by omega)⟩
set_option maxRecDepth 20000 in
theorem ri_mfind_no {sc : Nat × (Nat → Int32)} {d l : Nat} {H : aH} {fa cw cl rs : Int32} {li : Nat} {tb : Nat → Int8} {g0 : Nat → Int8} {p : Nat} {ms : List aMV} {op : Nat → Bool} {se : Nat → Nat} {wss : Nat → List aE} {kd pa sz nl : Nat → Nat} {nm : Nat → Int8} {ps : List aPc}  (h : RefI H fa li 0 cw cl tb l rs g0 p ms op se wss kd pa sz nl nm ps) (hk : RefOk l p ms se kd pa sz nl ps) (hl0 : 1 ≤ l) (hfn : fnF kd pa nl nm tb l (l + 2) 0 0 = none) : RI sc (d + 5) mr_321 [.ref 196] H (fun x H' => x = 0 ∧ RefI H' 2 li 0 cw cl tb 0 rs g0 p ms op se wss kd pa sz nl nm ps ∧ ∀ a, ¬ (195 ≤ a ∧ a < 224) → H'[a]? = H[a]?) := by
  obtain ⟨us, ba, bo, hm, hV, h5, h6, hR, hT, hP, h196, h197⟩ := h
  obtain ⟨k1, k2, k3, k4, k5, k6, k7, k8⟩ := hk
  refine RI.of ?_
  refine RQ.blk 2 (pc' := 2) (lv' := [(0, .ref 196)]) (st' := [.int 0, .ref 196]) (H' := _) (kc' := 0) (ks' := 0) rfl ?_
  refine RQ.put (ci := 12) rfl hm rfl rfl (Nat.le_of_ble_eq_true rfl) ?_
  have hm1 : (H.set 195 (kO 12 (mfs 0 (nI li) 0 cw cl (nI l) rs (nI p) (nI ms.length) (nI us) (nI ps.length) (nI (plen ps)) ba bo)))[195]? = some (kO 12 (mfs 0 (nI li) 0 cw cl (nI l) rs (nI p) (nI ms.length) (nI us) (nI ps.length) (nI (plen ps)) ba bo)) := get_set hm
  have f1 : ∀ a, a ≠ 195 → (H.set 195 (kO 12 (mfs 0 (nI li) 0 cw cl (nI l) rs (nI p) (nI ms.length) (nI us) (nI ps.length) (nI (plen ps)) ba bo)))[a]? = H[a]? := fun a ha => set_far ha
  show RQ _ _ _ 5 [(0, .ref 196)] [] (H.set 195 (kO 12 (mfs 0 (nI li) 0 cw cl (nI l) rs (nI p) (nI ms.length) (nI us) (nI ps.length) (nI (plen ps)) ba bo))) 0 0 _
  generalize (H.set 195 (kO 12 (mfs 0 (nI li) 0 cw cl (nI l) rs (nI p) (nI ms.length) (nI us) (nI ps.length) (nI (plen ps)) ba bo))) = H1 at hm1 f1 ⊢
  have hV1 := hV.far (fun a a1 a2 => f1 a (by omega)) (f1 223 (by decide))
  have h51 := (f1 205 (by decide)).trans h5
  have h61 := (f1 206 (by decide)).trans h6
  have hR1 := hR.far (fun a a1 => f1 a (by omega))
  have hT1 := hT.far (fun a a1 a2 => f1 a (by omega))
  have hP1 := hP.far (fun a a1 a2 => f1 a (by omega))
  have h1961 := (f1 196 (by decide)).trans h196
  have h1971 := (f1 197 (by decide)).trans h197
  refine RQ.blk 1 (pc' := 6) (lv' := [(0, .ref 196)]) (st' := [.ref 196]) (H' := _) (kc' := 0) (ks' := 0) rfl ?_
  refine RQ.get (ci := 12) rfl hm1 rfl rfl ?_
  refine RQ.brT rfl rfl rfl (by decide) ?_
  refine RQ.blk 1 (pc' := 19) (lv' := [(0, .ref 196)]) (st' := [.ref 196]) (H' := _) (kc' := 0) (ks' := 0) rfl ?_
  refine RQ.get (ci := 12) rfl hm1 rfl rfl ?_
  refine RQ.blk 3 (pc' := 25) (lv' := [(1, .int (nI l)), (0, .ref 196)]) (st' := [.int 0, .ref 196]) (H' := _) (kc' := 0) (ks' := 0) rfl ?_
  refine RQ.put (ci := 12) rfl hm1 rfl rfl (Nat.le_of_ble_eq_true rfl) ?_
  have hm2 : (H1.set 195 (kO 12 (mfs 0 (nI li) 0 cw cl (nI 0) rs (nI p) (nI ms.length) (nI us) (nI ps.length) (nI (plen ps)) ba bo)))[195]? = some (kO 12 (mfs 0 (nI li) 0 cw cl (nI 0) rs (nI p) (nI ms.length) (nI us) (nI ps.length) (nI (plen ps)) ba bo)) := get_set hm1
  have f2 : ∀ a, a ≠ 195 → (H1.set 195 (kO 12 (mfs 0 (nI li) 0 cw cl (nI 0) rs (nI p) (nI ms.length) (nI us) (nI ps.length) (nI (plen ps)) ba bo)))[a]? = H[a]? := fun a ha => (set_far ha).trans (f1 a ha)
  show RQ _ _ _ 28 [(1, .int (nI l)), (0, .ref 196)] [] (H1.set 195 (kO 12 (mfs 0 (nI li) 0 cw cl (nI 0) rs (nI p) (nI ms.length) (nI us) (nI ps.length) (nI (plen ps)) ba bo))) 0 0 _
  generalize (H1.set 195 (kO 12 (mfs 0 (nI li) 0 cw cl (nI 0) rs (nI p) (nI ms.length) (nI us) (nI ps.length) (nI (plen ps)) ba bo))) = H2 at hm2 f2 ⊢
  clear hm1 f1 hV1 h51 h61 hR1 hT1 hP1 h1961 h1971
  have hm1 := hm2
  have f1 := f2
  clear hm2 f2
  have hV1 := hV.far (fun a a1 a2 => f1 a (by omega)) (f1 223 (by decide))
  have h51 := (f1 205 (by decide)).trans h5
  have h61 := (f1 206 (by decide)).trans h6
  have hR1 := hR.far (fun a a1 => f1 a (by omega))
  have hT1 := hT.far (fun a a1 a2 => f1 a (by omega))
  have hP1 := hP.far (fun a a1 a2 => f1 a (by omega))
  have h1961 := (f1 196 (by decide)).trans h196
  have h1971 := (f1 197 (by decide)).trans h197
  refine RQ.blk 1 (pc' := 29) (lv' := [(1, .int (nI l)), (0, .ref 196)]) (st' := [.int (nI l)]) (H' := _) (kc' := 0) (ks' := 0) rfl ?_
  refine RQ.brT rfl rfl rfl (cT_ne l 0) ?_
  refine RQ.blk 4 (pc' := 38) (lv' := [(3, .int 0), (2, .int 0), (1, .int (nI l)), (0, .ref 196)]) (st' := []) (H' := _) (kc' := 0) (ks' := 0) rfl ?_
  refine RQ.pick (a := [(3, .int 0), (2, .int 0), (0, .ref 196), (1, .int (nI l))]) [0, 1, 3, 2] [3, 2, 1, 0] rfl rfl (by decide) ?_
  refine RQ.while (S := Nat × Nat) (pc := 38) (fun s H' => s.1 ≤ 200 ∧ s.2 ≤ l + 1 ∧ fnF kd pa nl nm tb l (l + 2 - s.2) s.1 s.2 = none ∧ H' = H2) (fun s => [(3, .int (nI s.2)), (2, .int (nI s.1)), (0, .ref 196), (1, .int (nI l))]) (fun s => l + 1 - s.2) ?_ (0, 0) H2 ⟨Nat.zero_le _, Nat.zero_le _, hfn, rfl⟩
  rintro ⟨v, i⟩ H3 ⟨hv, hi, he, eH⟩ ih
  dsimp only at hv hi he ⊢
  rw [eH]
  by_cases hil : i ≤ l
  ·
    have hsp := spT_le (tb := tb) hil
    have hkv := k5 v hv
    rw [show l + 2 - i = l + 1 - i + 1 by omega, fnF, if_neg (by omega)] at he
    refine RQ.blk 2 (pc' := 40) (lv' := [(3, .int (nI i)), (2, .int (nI v)), (0, .ref 196), (1, .int (nI l))]) (st' := [.int (nI l), .int (nI i)]) (H' := _) (kc' := 0) (ks' := 0) rfl ?_
    refine RQ.brF rfl rfl rfl (cF_gt i l) ?_
    refine RQ.blk 2 (pc' := 46) (lv' := [(4, .int (nI i)), (3, .int (nI i)), (2, .int (nI v)), (0, .ref 196), (1, .int (nI l))]) (st' := []) (H' := _) (kc' := 0) (ks' := 0) rfl ?_
    refine RQ.pick (a := [(4, .int (nI i)), (3, .int (nI i)), (2, .int (nI v)), (0, .ref 196), (1, .int (nI l))]) [0, 1, 2, 3, 4] [4, 3, 2, 0, 1] rfl rfl (by decide) ?_
    refine rq_mslash hm1 rfl h1961 k1 hil ?_
    refine RQ.blk 2 (pc' := 72) (lv' := [(4, .int (nI (spT tb l i))), (3, .int (nI i)), (2, .int (nI v)), (0, .ref 196), (1, .int (nI l))]) (st' := [.int (nI v), .ref 196]) (H' := _) (kc' := 0) (ks' := 0) rfl ?_
    by_cases kz : kd v = 2
    · rw [if_pos kz] at he
      refine RQ.call (v := some (.int 1)) (st' := []) rfl rfl rfl rfl rfl rfl (args_v [.int (nI v)] [] rfl rfl (Nat.le_of_ble_eq_true rfl) rfl hm1 (Nat.le_of_ble_eq_true rfl)) (rc_mdirT hm1 rfl hT1.1 hv (nI_is2 kz)) ?_
      refine RQ.brF rfl rfl rfl (by decide) ?_
      refine RQ.blk 6 (pc' := 85) (lv' := [(4, .int (nI (spT tb l i))), (3, .int (nI i)), (2, .int (nI v)), (0, .ref 196), (1, .int (nI l))]) (st' := [.int (nI (spT tb l i) - nI i), .int (nI i), .int (nI v), .ref 196]) (H' := _) (kc' := 0) (ks' := 0) rfl ?_
      rw [show (nI (spT tb l i) - nI i : Int32) = nI ((spT tb l i) - i) from pk_sub (a := (spT tb l i)) (b := i) (by omega)]
      cases hc : fstF (inN kd pa nl nm v (sl tb i (spT tb l i - i))) 1 200 with
      | none =>
        rw [hc] at he
        dsimp only at he
        have hch := rc_mchild (sc := sc) (d := d + 3) (j := i) (m := spT tb l i - i) hm1 hT1 k5 h1961 (by omega) hv
        rw [hc] at hch
        refine RQ.call (v := some (.int (-1))) (st' := []) rfl rfl rfl rfl rfl rfl (args_v [.int (nI ((spT tb l i) - i)), .int (nI i), .int (nI v)] [] rfl rfl (Nat.le_of_ble_eq_true rfl) rfl hm1 (Nat.le_of_ble_eq_true rfl)) hch ?_
        refine RQ.blk 3 (pc' := 94) (lv' := [(2, .int (-1)), (4, .int (nI (spT tb l i))), (3, .int (nI i)), (0, .ref 196), (1, .int (nI l))]) (st' := [.int (-1)]) (H' := _) (kc' := 0) (ks' := 0) rfl ?_
        refine RQ.brF rfl rfl rfl (by decide) ?_
        refine RQ.blk 2 (pc' := 99) (lv' := [(2, .int (-1)), (4, .int (nI (spT tb l i))), (3, .int (nI i)), (0, .ref 196), (1, .int (nI l))]) (st' := [.int 2, .ref 196]) (H' := _) (kc' := 0) (ks' := 0) rfl ?_
        refine RQ.call (v := some (.int 0)) (st' := []) rfl rfl rfl rfl rfl rfl (args_v [.int 2] [] rfl rfl (Nat.le_of_ble_eq_true rfl) rfl hm1 (Nat.le_of_ble_eq_true rfl)) (rc_mfail hm1 rfl) ?_
        exact RQ.done (c := 0) (s := 0) rfl rfl rfl rfl ⟨_, _, rfl, rfl, ⟨us, ba, bo, get_set hm1, hV1.far (fun a a1 a2 => set_far (by omega)) (set_far (by decide)), (set_far (by decide)).trans h51, (set_far (by decide)).trans h61, hR1.far (fun a a1 => set_far (by omega)), hT1.far (fun a a1 a2 => set_far (by omega)), hP1.far (fun a a1 a2 => set_far (by omega)), (set_far (by decide)).trans h1961, (set_far (by decide)).trans h1971⟩, fun a ha => (set_far (by omega)).trans (f1 a (by omega))⟩
      | some c =>
        rw [hc] at he
        dsimp only at he
        have hch := rc_mchild (sc := sc) (d := d + 3) (j := i) (m := spT tb l i - i) hm1 hT1 k5 h1961 (by omega) hv
        rw [hc] at hch
        have hcl := fstF_lt hc
        refine RQ.call (v := some (.int (nI c))) (st' := []) rfl rfl rfl rfl rfl rfl (args_v [.int (nI ((spT tb l i) - i)), .int (nI i), .int (nI v)] [] rfl rfl (Nat.le_of_ble_eq_true rfl) rfl hm1 (Nat.le_of_ble_eq_true rfl)) hch ?_
        refine RQ.blk 3 (pc' := 94) (lv' := [(2, .int (nI c)), (4, .int (nI (spT tb l i))), (3, .int (nI i)), (0, .ref 196), (1, .int (nI l))]) (st' := [.int (nI c)]) (H' := _) (kc' := 0) (ks' := 0) rfl ?_
        refine RQ.brT rfl rfl rfl (cT_ge c 0) ?_
        refine RQ.blk 3 (pc' := 107) (lv' := [(2, .int (nI c)), (4, .int (nI (spT tb l i))), (3, .int (nI i)), (0, .ref 196), (1, .int (nI l))]) (st' := [.int (nI (spT tb l i) + 1)]) (H' := _) (kc' := 0) (ks' := 0) rfl ?_
        rw [show (nI (spT tb l i) + 1 : Int32) = nI ((spT tb l i) + 1) from nI_add (spT tb l i) 1]
        refine RQ.blk 2 (pc' := 38) (lv' := [(3, .int (nI ((spT tb l i) + 1))), (2, .int (nI c)), (4, .int (nI (spT tb l i))), (0, .ref 196), (1, .int (nI l))]) (st' := []) (H' := _) (kc' := 0) (ks' := 0) rfl ?_
        refine RQ.pick (a := [(3, .int (nI ((spT tb l i) + 1))), (2, .int (nI c)), (0, .ref 196), (1, .int (nI l))]) [0, 1, 3, 4] [3, 2, 4, 0, 1] rfl rfl (by decide) ?_
        exact ih (c, spT tb l i + 1) _ ⟨by show c ≤ 200; omega, by show spT tb l i + 1 ≤ l + 1; omega, by show fnF kd pa nl nm tb l (l + 2 - (spT tb l i + 1)) c (spT tb l i + 1) = _; rw [← he]; exact fnF_fuel (by omega) (by omega), rfl⟩ (by show l + 1 - (spT tb l i + 1) < l + 1 - i; omega)
    · rw [if_neg kz] at he
      refine RQ.call (v := some (.int 0)) (st' := []) rfl rfl rfl rfl rfl rfl (args_v [.int (nI v)] [] rfl rfl (Nat.le_of_ble_eq_true rfl) rfl hm1 (Nat.le_of_ble_eq_true rfl)) (rc_mdirF hm1 rfl hT1.1 hv (nI_ne2 hkv.1 kz)) ?_
      refine RQ.brT rfl rfl rfl (by decide) ?_
      refine RQ.blk 3 (pc' := 94) (lv' := [(2, .int (-1)), (4, .int (nI (spT tb l i))), (3, .int (nI i)), (0, .ref 196), (1, .int (nI l))]) (st' := [.int (-1)]) (H' := _) (kc' := 0) (ks' := 0) rfl ?_
      refine RQ.brF rfl rfl rfl (by decide) ?_
      refine RQ.blk 2 (pc' := 99) (lv' := [(2, .int (-1)), (4, .int (nI (spT tb l i))), (3, .int (nI i)), (0, .ref 196), (1, .int (nI l))]) (st' := [.int 2, .ref 196]) (H' := _) (kc' := 0) (ks' := 0) rfl ?_
      refine RQ.call (v := some (.int 0)) (st' := []) rfl rfl rfl rfl rfl rfl (args_v [.int 2] [] rfl rfl (Nat.le_of_ble_eq_true rfl) rfl hm1 (Nat.le_of_ble_eq_true rfl)) (rc_mfail hm1 rfl) ?_
      exact RQ.done (c := 0) (s := 0) rfl rfl rfl rfl ⟨_, _, rfl, rfl, ⟨us, ba, bo, get_set hm1, hV1.far (fun a a1 a2 => set_far (by omega)) (set_far (by decide)), (set_far (by decide)).trans h51, (set_far (by decide)).trans h61, hR1.far (fun a a1 => set_far (by omega)), hT1.far (fun a a1 a2 => set_far (by omega)), hP1.far (fun a a1 a2 => set_far (by omega)), (set_far (by decide)).trans h1961, (set_far (by decide)).trans h1971⟩, fun a ha => (set_far (by omega)).trans (f1 a (by omega))⟩
  ·
    rw [show l + 2 - i = l + 1 - i + 1 by omega, fnF, if_pos (by omega)] at he
    cases he
