/-! ===== the reference: what a commit writes; written by wip/gen/mapply.py ===== -/
theorem eOff_0 (ws : List aE) : eOff ws 0 = 0 := by cases ws <;> rfl
theorem eOff_app : ∀ (a b : List aE) (i : Nat), i ≤ a.length → eOff (a ++ b) i = eOff a i
  | _, _, 0, _ => by rw [eOff_0, eOff_0]
  | [], _, i + 1, h => absurd h (by simp)
  | x :: a, b, i + 1, h => by
    rw [List.cons_append, eOff, eOff, eOff_app a b i (by simpa using h)]
theorem MVLay.front {bf : Nat → Int8} {ko kn vo : Nat → Nat} {vz : Nat → Option Nat} {vm : Nat → Nat} {ms l : List aMV} (h : MVLay bf ko kn vo vz vm (ms ++ l)) : MVLay bf ko kn vo vz vm ms := by
  have hget : ∀ v (w : aMV), ms[v]? = some w → (ms ++ l)[v]? = some w := fun v w hv => by rw [List.getElem?_append_left (get_lt hv)]; exact hv
  refine ⟨fun i e hi => ?_, fun v w hv => h.2 v w (hget v w hv)⟩
  rw [List.getElem?_map] at hi
  cases hm : ms[i]? with
  | none => rw [hm] at hi; cases hi
  | some w =>
    rw [hm] at hi
    have he : eMV w = e := Option.some.inj hi
    have h1 := h.1 i e (by rw [List.getElem?_map, hget i w hm]; exact hi)
    rw [List.map_append, eOff_app _ _ _ (by rw [List.length_map]; exact Nat.le_of_lt (get_lt hm))] at h1
    exact h1
theorem MVLay.snoc {bf wb : Nat → Int8} {ko kn vo : Nat → Nat} {vz : Nat → Option Nat} {vm : Nat → Nat} {ms : List aMV} {e : aE} {m f n1 : Nat} {l : Option Nat} (h : MVLay bf ko kn vo vz vm ms) (h1 : n1 = e.1.length) (h2 : l = e.2.map List.length) (h3 : sl wb f (eLen e) = e.1 ++ e.2.getD []) : MVLay (cpy wb f bf (eOff (ms.map eMV) ms.length) (eLen e)) (va_up ko ms.length (eOff (ms.map eMV) ms.length)) (va_up kn ms.length n1) (va_up vo ms.length (eOff (ms.map eMV) ms.length + n1)) (va_up vz ms.length l) (va_up vm ms.length m) (ms ++ [(e.1, m, e.2)]) := by
  have hl : (ms.map eMV).length = ms.length := List.length_map _
  refine ⟨?_, fun v w hv => ?_⟩
  · rw [List.map_append]
    refine LayE.snoc (e := e) h.1 (fun q _ hq => cpy_out (Or.inl (by rw [hl] at hq; omega))) (fun i hi => ?_) ?_ ?_ ?_ ?_
    · rw [hl] at hi
      rw [up_ne (by omega), up_ne (by omega), up_ne (by omega)]
      exact ⟨rfl, rfl, rfl⟩
    · rw [hl, up_at, Nat.zero_add]
    · rw [hl, up_at]; exact h1
    · rw [hl, up_at]; exact h2
    · rw [hl, Nat.zero_add, sl_cpy]
      exact h3
  · by_cases hc : v = ms.length
    · rw [hc] at hv ⊢
      rw [List.getElem?_append_right (Nat.le_refl _), Nat.sub_self] at hv
      have : (e.1, m, e.2) = w := Option.some.inj hv
      rw [← this, up_at, up_at, up_at, up_at]
      exact ⟨rfl, rfl⟩
    · have hv2 : v < ms.length := by have := get_lt hv; rw [List.length_append] at this; have h9 : ([(e.1, m, e.2)] : List aMV).length = 1 := rfl; omega
      rw [List.getElem?_append_left hv2] at hv
      rw [up_ne hc, up_ne hc, up_ne hc, up_ne hc]
      exact h.2 v w hv
/-- what a commit adds -/
def addM (m : Nat) (ws : List aE) : List aMV := ws.map (fun e => (e.1, m, e.2))
theorem addM_take {m : Nat} {ws : List aE} {i : Nat} {e : aE} (h : ws[i]? = some e) : addM m (ws.take (i + 1)) = addM m (ws.take i) ++ [(e.1, m, e.2)] := by
  unfold addM
  rw [take_get h, List.map_append]
  rfl
theorem eOff_add {ms : List aMV} {w : aMV} : eOff ((ms ++ [w]).map eMV) (ms ++ [w]).length = eOff (ms.map eMV) ms.length + eLen (eMV w) := by
  have hl : (ms.map eMV).length = ms.length := List.length_map _
  rw [List.length_append, show ([w] : List aMV).length = 1 from rfl, eOff_succ (e := eMV w) (by rw [List.map_append, List.getElem?_append_right (by omega), hl, Nat.sub_self]; rfl), List.map_append, eOff_app _ _ _ (by omega)]
theorem rq_apcopy {sc : Nat × (Nat → Int32)} {d t r us n : Nat} {H : aH} {fa li dn cw cl tp rs pr ve pi hu : Int32} {ba bo : Nat} {bf wb : Nat → Int8} {wk : Nat → Nat} {Q : tO × aH × Nat × Nat → Prop} (hm : H[195]? = some (kO 12 (mfs fa li dn cw cl tp rs pr ve (nI us) pi hu ba bo))) (h9 : H[209]? = some (kI 256 (fun j => nI (wk j)))) (h12 : H[212]? = some (kB 32000 wb)) (hb : H[ba]? = some (kB 48000 bf)) (hba : ba = 203 ∨ ba = 204) (hr : r < 256) (h1 : wk r + n ≤ 32000) (h2 : us + n ≤ 48000)
    (kq : RQ sc d mr_297 77 [(4, .int (nI n)), (3, .int (nI n)), (2, .int (nI r)), (0, .ref 196), (1, .int (nI t))] [] (H.set ba (kB 48000 (cpy wb (wk r) bf us n))) 0 0 Q) : RQ sc d mr_297 39 [(4, .int (nI 0)), (3, .int (nI n)), (2, .int (nI r)), (0, .ref 196), (1, .int (nI t))] [] H 0 0 Q := by
  refine RQ.while (S := Nat) (pc := 39) (fun k H' => k ≤ n ∧ H' = (H.set ba (kB 48000 (cpy wb (wk r) bf us k)))) (fun k => [(4, .int (nI k)), (3, .int (nI n)), (2, .int (nI r)), (0, .ref 196), (1, .int (nI t))]) (fun k => n - k) ?_ 0 H ⟨Nat.zero_le _, by rw [cpy_0, set_self hb]⟩
  rintro k H1 ⟨hk, e⟩ ih
  rw [e]
  by_cases hlt : k < n
  ·
    refine RQ.blk 2 (pc' := 42) (lv' := [(4, .int (nI k)), (3, .int (nI n)), (2, .int (nI r)), (0, .ref 196), (1, .int (nI t))]) (st' := [.int (nI n), .int (nI k)]) (H' := _) (kc' := 0) (ks' := 0) rfl ?_
    refine RQ.brF rfl rfl rfl (cF_ge k n) ?_
    refine RQ.blk 1 (pc' := 46) (lv' := [(4, .int (nI k)), (3, .int (nI n)), (2, .int (nI r)), (0, .ref 196), (1, .int (nI t))]) (st' := [.ref 196]) (H' := _) (kc' := 0) (ks' := 0) rfl ?_
    refine RQ.get (ci := 12) rfl ((set_far (by omega)).trans hm) rfl rfl ?_
    refine RQ.blk 1 (pc' := 50) (lv' := [(4, .int (nI k)), (3, .int (nI n)), (2, .int (nI r)), (0, .ref 196), (1, .int (nI t))]) (st' := [.ref 196, .ref (ba + 1)]) (H' := _) (kc' := 0) (ks' := 0) rfl ?_
    refine RQ.get (ci := 12) rfl ((set_far (by omega)).trans hm) rfl rfl ?_
    refine RQ.blk 2 (pc' := 56) (lv' := [(4, .int (nI k)), (3, .int (nI n)), (2, .int (nI r)), (0, .ref 196), (1, .int (nI t))]) (st' := [.int (nI us + nI k), .ref (ba + 1)]) (H' := _) (kc' := 0) (ks' := 0) rfl ?_
    rw [show (nI us + nI k : Int32) = nI (us + k) from nI_add us k]
    refine RQ.blk 1 (pc' := 57) (lv' := [(4, .int (nI k)), (3, .int (nI n)), (2, .int (nI r)), (0, .ref 196), (1, .int (nI t))]) (st' := [.ref 196, .int (nI (us + k)), .ref (ba + 1)]) (H' := _) (kc' := 0) (ks' := 0) rfl ?_
    refine RQ.get (ci := 12) rfl ((set_far (by omega)).trans hm) rfl rfl ?_
    refine RQ.blk 1 (pc' := 61) (lv' := [(4, .int (nI k)), (3, .int (nI n)), (2, .int (nI r)), (0, .ref 196), (1, .int (nI t))]) (st' := [.ref 196, .ref 213, .int (nI (us + k)), .ref (ba + 1)]) (H' := _) (kc' := 0) (ks' := 0) rfl ?_
    refine RQ.get (ci := 12) rfl ((set_far (by omega)).trans hm) rfl rfl ?_
    refine RQ.blk 1 (pc' := 65) (lv' := [(4, .int (nI k)), (3, .int (nI n)), (2, .int (nI r)), (0, .ref 196), (1, .int (nI t))]) (st' := [.int (nI r), .ref 210, .ref 213, .int (nI (us + k)), .ref (ba + 1)]) (H' := _) (kc' := 0) (ks' := 0) rfl ?_
    refine RQ.ialdN (j := r) rfl ((set_far (by omega)).trans h9) (by omega) (by decide) ?_
    refine RQ.blk 2 (pc' := 69) (lv' := [(4, .int (nI k)), (3, .int (nI n)), (2, .int (nI r)), (0, .ref 196), (1, .int (nI t))]) (st' := [.int (nI (wk r) + nI k), .ref 213, .int (nI (us + k)), .ref (ba + 1)]) (H' := _) (kc' := 0) (ks' := 0) rfl ?_
    rw [show (nI (wk r) + nI k : Int32) = nI (wk r + k) from nI_add (wk r) k]
    refine RQ.baldN (j := wk r + k) rfl ((set_far (by omega)).trans h12) (by omega) (by decide) ?_
    refine RQ.bastN (j := us + k) rfl (get_set hb) (by omega) (by decide) ?_
    rw [set_set, Int8.toInt8_toInt32, cpy_up']
    refine RQ.blk 1 (pc' := 74) (lv' := [(4, .int (nI k + 1)), (3, .int (nI n)), (2, .int (nI r)), (0, .ref 196), (1, .int (nI t))]) (st' := []) (H' := _) (kc' := 0) (ks' := 0) rfl ?_
    rw [show (nI k + 1 : Int32) = nI (k + 1) from nI_add k 1]
    refine RQ.blk 1 (pc' := 39) (lv' := [(4, .int (nI (k + 1))), (3, .int (nI n)), (2, .int (nI r)), (0, .ref 196), (1, .int (nI t))]) (st' := []) (H' := _) (kc' := 0) (ks' := 0) rfl ?_
    exact ih (k + 1) _ ⟨by omega, rfl⟩ (by omega)
  · have e2 : k = n := by omega
    rw [e2]
    refine RQ.blk 2 (pc' := 42) (lv' := [(4, .int (nI n)), (3, .int (nI n)), (2, .int (nI r)), (0, .ref 196), (1, .int (nI t))]) (st' := [.int (nI n), .int (nI n)]) (H' := _) (kc' := 0) (ks' := 0) rfl ?_
    refine RQ.brT rfl rfl rfl (cT_ge n n) ?_
    exact kq
theorem addM_off (ms : List aMV) (ws : List aE) (m : Nat) : ∀ (i : Nat), i ≤ ws.length → eOff ((ms ++ addM m (ws.take i)).map eMV) (ms ++ addM m (ws.take i)).length = eOff (ms.map eMV) ms.length + eOff ws i
  | 0, _ => by
    rw [show ms ++ addM m (ws.take 0) = ms from List.append_nil ms, eOff_0]
    rfl
  | i + 1, hi => by
    obtain ⟨e, he⟩ := lt_get (l := ws) (i := i) (by omega)
    rw [addM_take he, ← List.append_assoc, eOff_add, addM_off ms ws m i (by omega), eOff_succ he, Nat.add_assoc]
    rfl
theorem rn_apply {sc : Nat × (Nat → Int32)} {d t p us : Nat} {H : aH} {fa li dn cw cl tp rs pi hu : Int32} {ba bo : Nat} {ms : List aMV} {ro fi wk wn : Nat → Nat} {wz : Nat → Option Nat} {wb : Nat → Int8} {ws : List aE} (hm : H[195]? = some (kO 12 (mfs fa li dn cw cl tp rs (nI p) (nI ms.length) (nI us) pi hu ba bo))) (hI : MVIs H ba bo us ms) (hR : MRAt H ro fi wk wn wz wb) (hT : TxL ro fi wk wn wz wb t ws) (ht : t < 8) (hcap : ms.length + ws.length ≤ 1500) (hby : eOff (ms.map eMV) ms.length + eOff ws ws.length ≤ 48000) : RN sc (d + 1) mr_297 [.ref 196, .int (nI t)] H (fun H' => (∃ us', H'[195]? = some (kO 12 (mfs fa li dn cw cl tp rs (nI (p + 1)) (nI (ms ++ addM (p + 1) ws).length) (nI us') pi hu ba bo)) ∧ MVIs H' ba bo us' (ms ++ addM (p + 1) ws)) ∧ ∀ a, a ≠ 195 → ¬ (198 ≤ a ∧ a ≤ 204) → H'[a]? = H[a]?) := by
  have hbab := hI.2.2.2.2
  have hlen := hT.2.2.1
  have hro := hT.1
  refine RN.of ?_
  refine RQ.blk 2 (pc' := 2) (lv' := [(0, .ref 196), (1, .int (nI t))]) (st' := [.ref 196, .ref 196]) (H' := _) (kc' := 0) (ks' := 0) rfl ?_
  refine RQ.get (ci := 12) rfl hm rfl rfl ?_
  refine RQ.blk 2 (pc' := 7) (lv' := [(0, .ref 196), (1, .int (nI t))]) (st' := [.int (nI p + 1), .ref 196]) (H' := _) (kc' := 0) (ks' := 0) rfl ?_
  rw [show (nI p + 1 : Int32) = nI (p + 1) from nI_add p 1]
  refine RQ.put (ci := 12) rfl hm rfl rfl (Nat.le_of_ble_eq_true rfl) ?_
  refine RQ.blk 3 (pc' := 14) (lv' := [(0, .ref 196), (1, .int (nI t))]) (st' := [.int (32 * nI t)]) (H' := _) (kc' := 0) (ks' := 0) rfl ?_
  rw [show (32 * nI t : Int32) = nI (32 * t) from pk_mul 32 t]
  refine RQ.blk 1 (pc' := 15) (lv' := [(2, .int (nI (32 * t))), (0, .ref 196), (1, .int (nI t))]) (st' := []) (H' := _) (kc' := 0) (ks' := 0) rfl ?_
  refine RQ.while (S := Nat) (pc := 15) (fun i H' => i ≤ ws.length ∧ (∃ us', H'[195]? = some (kO 12 (mfs fa li dn cw cl tp rs (nI (p + 1)) (nI (ms ++ addM (p + 1) (ws.take i)).length) (nI us') pi hu ba bo)) ∧ MVIs H' ba bo us' (ms ++ addM (p + 1) (ws.take i))) ∧ ∀ a, a ≠ 195 → ¬ (198 ≤ a ∧ a ≤ 204) → H'[a]? = H[a]?) (fun i => [(2, .int (nI (32 * t + i))), (0, .ref 196), (1, .int (nI t))]) (fun i => ws.length - i) ?_ 0 _ ⟨Nat.zero_le _, ⟨us, ?_, ?_⟩, fun a h1 h2 => set_far h1⟩
  · rintro i H1 ⟨hi, ⟨us', hm1, hI1⟩, hfr⟩ ih
    have g7 := (hfr 207 (by decide) (by decide)).trans hR.1
    by_cases hil : i < ws.length
    ·
      refine RQ.blk 4 (pc' := 20) (lv' := [(2, .int (nI (32 * t + i))), (0, .ref 196), (1, .int (nI t))]) (st' := [.int (32 * nI t), .int (nI (32 * t + i))]) (H' := _) (kc' := 0) (ks' := 0) rfl ?_
      rw [show (32 * nI t : Int32) = nI (32 * t) from pk_mul 32 t]
      refine RQ.blk 1 (pc' := 21) (lv' := [(2, .int (nI (32 * t + i))), (0, .ref 196), (1, .int (nI t))]) (st' := [.ref 196, .int (nI (32 * t)), .int (nI (32 * t + i))]) (H' := _) (kc' := 0) (ks' := 0) rfl ?_
      refine RQ.get (ci := 12) rfl hm1 rfl rfl ?_
      refine RQ.blk 1 (pc' := 25) (lv' := [(2, .int (nI (32 * t + i))), (0, .ref 196), (1, .int (nI t))]) (st' := [.int (nI t), .ref 208, .int (nI (32 * t)), .int (nI (32 * t + i))]) (H' := _) (kc' := 0) (ks' := 0) rfl ?_
      refine RQ.ialdN (j := t) rfl g7 (by omega) (by decide) ?_
      refine RQ.blk 1 (pc' := 27) (lv' := [(2, .int (nI (32 * t + i))), (0, .ref 196), (1, .int (nI t))]) (st' := [.int (nI (32 * t) + nI (ro t)), .int (nI (32 * t + i))]) (H' := _) (kc' := 0) (ks' := 0) rfl ?_
      rw [show (nI (32 * t) + nI (ro t) : Int32) = nI (32 * t + (ro t)) from nI_add (32 * t) (ro t)]
      refine RQ.brF rfl rfl rfl (cF_ge (32 * t + i) (32 * t + ro t)) ?_
      refine RQ.blk 2 (pc' := 32) (lv' := [(2, .int (nI (32 * t + i))), (0, .ref 196), (1, .int (nI t))]) (st' := [.int (nI (32 * t + i)), .ref 196]) (H' := _) (kc' := 0) (ks' := 0) rfl ?_
      obtain ⟨e, he⟩ := lt_get hil
      obtain ⟨f1, f2, f3, f4⟩ := hT.2.2.2.2 i e he
      have f5 := ((hT.ok ht).2.2.2 i (by omega)).2
      have f6 := hT.2.2.2.1
      have f7 := hT.2.1
      have f1 : wk (32 * t + i) = 4000 * t + eOff ws i := f1
      have f2 : wn (32 * t + i) = e.1.length := f2
      have f3 : wz (32 * t + i) = e.2.map List.length := f3
      have hel : wn (32 * t + i) + (wz (32 * t + i)).getD 0 = eLen e := by rw [f2, eGet (E := fun _ => wz (32 * t + i)) (i := 0) f3]; rfl
      have hR1 : MRAt H1 ro fi wk wn wz wb := hR.far (fun a h1 h2 => hfr a (by omega) (by omega))
      have hle := eOff_succ he
      have hmn := eOff_mono ws (i := i + 1) (j := ws.length) (by omega)
      have hoff : us' = eOff (ms.map eMV) ms.length + eOff ws i := by rw [hI1.2.1]; exact addM_off ms ws (p + 1) i (by omega)
      obtain ⟨⟨bf, ko, kn, vo, vz, vm, hA, hL⟩, hus, hob, hw0, hbr⟩ := hI1
      have hlA : (ms ++ addM (p + 1) (ws.take i)).length = ms.length + i := by rw [List.length_append]; unfold addM; rw [List.length_map, List.length_take, Nat.min_eq_left (by omega)]
      refine RQ.call (v := some (.int (nI (wn (32 * t + i) + (wz (32 * t + i)).getD 0)))) (st' := []) rfl rfl rfl rfl rfl rfl (args_v [.int (nI (32 * t + i))] [] rfl rfl (Nat.le_of_ble_eq_true rfl) rfl hm1 (Nat.le_of_ble_eq_true rfl)) (rc_mrowBytes hm1 hR1 (by omega) (by omega)) ?_
      rw [hel]
      refine RQ.blk 3 (pc' := 39) (lv' := [(4, .int 0), (3, .int (nI (eLen e))), (2, .int (nI (32 * t + i))), (0, .ref 196), (1, .int (nI t))]) (st' := []) (H' := _) (kc' := 0) (ks' := 0) rfl ?_
      refine RQ.pick (a := [(4, .int 0), (3, .int (nI (eLen e))), (2, .int (nI (32 * t + i))), (0, .ref 196), (1, .int (nI t))]) [0, 1, 2, 3, 4] [4, 3, 2, 0, 1] rfl rfl (by decide) ?_
      refine rq_apcopy (us := us') hm1 hR1.2.2.1 hR1.2.2.2.2.2 hA.2.2.2.2.2 (by omega) (by omega) (by omega) (by omega) ?_
      refine RQ.blk 1 (pc' := 78) (lv' := [(4, .int (nI (eLen e))), (3, .int (nI (eLen e))), (2, .int (nI (32 * t + i))), (0, .ref 196), (1, .int (nI t))]) (st' := [.ref 196]) (H' := _) (kc' := 0) (ks' := 0) rfl ?_
      refine RQ.get (ci := 12) rfl ((set_far (by omega)).trans hm1) rfl rfl ?_
      refine RQ.blk 1 (pc' := 82) (lv' := [(4, .int (nI (eLen e))), (3, .int (nI (eLen e))), (2, .int (nI (32 * t + i))), (0, .ref 196), (1, .int (nI t))]) (st' := [.ref 196, .ref 199]) (H' := _) (kc' := 0) (ks' := 0) rfl ?_
      refine RQ.get (ci := 12) rfl ((set_far (by omega)).trans hm1) rfl rfl ?_
      refine RQ.blk 1 (pc' := 86) (lv' := [(4, .int (nI (eLen e))), (3, .int (nI (eLen e))), (2, .int (nI (32 * t + i))), (0, .ref 196), (1, .int (nI t))]) (st' := [.ref 196, .int (nI ((ms ++ addM (p + 1) (ws.take i)).length)), .ref 199]) (H' := _) (kc' := 0) (ks' := 0) rfl ?_
      refine RQ.get (ci := 12) rfl ((set_far (by omega)).trans hm1) rfl rfl ?_
      refine RQ.iastN (j := (ms ++ addM (p + 1) (ws.take i)).length) rfl ((set_far (by omega)).trans hA.1) (by omega) (by decide) ?_
      rw [up_nI]
      refine RQ.blk 1 (pc' := 91) (lv' := [(4, .int (nI (eLen e))), (3, .int (nI (eLen e))), (2, .int (nI (32 * t + i))), (0, .ref 196), (1, .int (nI t))]) (st' := [.ref 196]) (H' := _) (kc' := 0) (ks' := 0) rfl ?_
      refine RQ.get (ci := 12) rfl ((set_far (by decide)).trans ((set_far (by omega)).trans hm1)) rfl rfl ?_
      refine RQ.blk 1 (pc' := 95) (lv' := [(4, .int (nI (eLen e))), (3, .int (nI (eLen e))), (2, .int (nI (32 * t + i))), (0, .ref 196), (1, .int (nI t))]) (st' := [.ref 196, .ref 200]) (H' := _) (kc' := 0) (ks' := 0) rfl ?_
      refine RQ.get (ci := 12) rfl ((set_far (by decide)).trans ((set_far (by omega)).trans hm1)) rfl rfl ?_
      refine RQ.blk 1 (pc' := 99) (lv' := [(4, .int (nI (eLen e))), (3, .int (nI (eLen e))), (2, .int (nI (32 * t + i))), (0, .ref 196), (1, .int (nI t))]) (st' := [.ref 196, .int (nI ((ms ++ addM (p + 1) (ws.take i)).length)), .ref 200]) (H' := _) (kc' := 0) (ks' := 0) rfl ?_
      refine RQ.get (ci := 12) rfl ((set_far (by decide)).trans ((set_far (by omega)).trans hm1)) rfl rfl ?_
      refine RQ.blk 1 (pc' := 103) (lv' := [(4, .int (nI (eLen e))), (3, .int (nI (eLen e))), (2, .int (nI (32 * t + i))), (0, .ref 196), (1, .int (nI t))]) (st' := [.int (nI (32 * t + i)), .ref 211, .int (nI ((ms ++ addM (p + 1) (ws.take i)).length)), .ref 200]) (H' := _) (kc' := 0) (ks' := 0) rfl ?_
      refine RQ.ialdN (j := 32 * t + i) rfl ((set_far (by decide)).trans ((set_far (by omega)).trans hR1.2.2.2.1)) (by omega) (by decide) ?_
      refine RQ.iastN (j := (ms ++ addM (p + 1) (ws.take i)).length) rfl ((set_far (by decide)).trans ((set_far (by omega)).trans hA.2.1)) (by omega) (by decide) ?_
      rw [up_nI]
      refine RQ.blk 1 (pc' := 106) (lv' := [(4, .int (nI (eLen e))), (3, .int (nI (eLen e))), (2, .int (nI (32 * t + i))), (0, .ref 196), (1, .int (nI t))]) (st' := [.ref 196]) (H' := _) (kc' := 0) (ks' := 0) rfl ?_
      refine RQ.get (ci := 12) rfl ((set_far (by decide)).trans ((set_far (by decide)).trans ((set_far (by omega)).trans hm1))) rfl rfl ?_
      refine RQ.blk 1 (pc' := 110) (lv' := [(4, .int (nI (eLen e))), (3, .int (nI (eLen e))), (2, .int (nI (32 * t + i))), (0, .ref 196), (1, .int (nI t))]) (st' := [.ref 196, .ref 201]) (H' := _) (kc' := 0) (ks' := 0) rfl ?_
      refine RQ.get (ci := 12) rfl ((set_far (by decide)).trans ((set_far (by decide)).trans ((set_far (by omega)).trans hm1))) rfl rfl ?_
      refine RQ.blk 1 (pc' := 114) (lv' := [(4, .int (nI (eLen e))), (3, .int (nI (eLen e))), (2, .int (nI (32 * t + i))), (0, .ref 196), (1, .int (nI t))]) (st' := [.ref 196, .int (nI ((ms ++ addM (p + 1) (ws.take i)).length)), .ref 201]) (H' := _) (kc' := 0) (ks' := 0) rfl ?_
      refine RQ.get (ci := 12) rfl ((set_far (by decide)).trans ((set_far (by decide)).trans ((set_far (by omega)).trans hm1))) rfl rfl ?_
      refine RQ.blk 1 (pc' := 118) (lv' := [(4, .int (nI (eLen e))), (3, .int (nI (eLen e))), (2, .int (nI (32 * t + i))), (0, .ref 196), (1, .int (nI t))]) (st' := [.ref 196, .int (nI us'), .int (nI ((ms ++ addM (p + 1) (ws.take i)).length)), .ref 201]) (H' := _) (kc' := 0) (ks' := 0) rfl ?_
      refine RQ.get (ci := 12) rfl ((set_far (by decide)).trans ((set_far (by decide)).trans ((set_far (by omega)).trans hm1))) rfl rfl ?_
      refine RQ.blk 1 (pc' := 122) (lv' := [(4, .int (nI (eLen e))), (3, .int (nI (eLen e))), (2, .int (nI (32 * t + i))), (0, .ref 196), (1, .int (nI t))]) (st' := [.int (nI (32 * t + i)), .ref 211, .int (nI us'), .int (nI ((ms ++ addM (p + 1) (ws.take i)).length)), .ref 201]) (H' := _) (kc' := 0) (ks' := 0) rfl ?_
      refine RQ.ialdN (j := 32 * t + i) rfl ((set_far (by decide)).trans ((set_far (by decide)).trans ((set_far (by omega)).trans hR1.2.2.2.1))) (by omega) (by decide) ?_
      refine RQ.blk 1 (pc' := 124) (lv' := [(4, .int (nI (eLen e))), (3, .int (nI (eLen e))), (2, .int (nI (32 * t + i))), (0, .ref 196), (1, .int (nI t))]) (st' := [.int (nI us' + nI (wn (32 * t + i))), .int (nI ((ms ++ addM (p + 1) (ws.take i)).length)), .ref 201]) (H' := _) (kc' := 0) (ks' := 0) rfl ?_
      rw [show (nI us' + nI (wn (32 * t + i)) : Int32) = nI (us' + (wn (32 * t + i))) from nI_add us' (wn (32 * t + i))]
      refine RQ.iastN (j := (ms ++ addM (p + 1) (ws.take i)).length) rfl ((set_far (by decide)).trans ((set_far (by decide)).trans ((set_far (by omega)).trans hA.2.2.1))) (by omega) (by decide) ?_
      rw [up_nI]
      refine RQ.blk 1 (pc' := 126) (lv' := [(4, .int (nI (eLen e))), (3, .int (nI (eLen e))), (2, .int (nI (32 * t + i))), (0, .ref 196), (1, .int (nI t))]) (st' := [.ref 196]) (H' := _) (kc' := 0) (ks' := 0) rfl ?_
      refine RQ.get (ci := 12) rfl ((set_far (by decide)).trans ((set_far (by decide)).trans ((set_far (by decide)).trans ((set_far (by omega)).trans hm1)))) rfl rfl ?_
      refine RQ.blk 1 (pc' := 130) (lv' := [(4, .int (nI (eLen e))), (3, .int (nI (eLen e))), (2, .int (nI (32 * t + i))), (0, .ref 196), (1, .int (nI t))]) (st' := [.ref 196, .ref 202]) (H' := _) (kc' := 0) (ks' := 0) rfl ?_
      refine RQ.get (ci := 12) rfl ((set_far (by decide)).trans ((set_far (by decide)).trans ((set_far (by decide)).trans ((set_far (by omega)).trans hm1)))) rfl rfl ?_
      refine RQ.blk 1 (pc' := 134) (lv' := [(4, .int (nI (eLen e))), (3, .int (nI (eLen e))), (2, .int (nI (32 * t + i))), (0, .ref 196), (1, .int (nI t))]) (st' := [.ref 196, .int (nI ((ms ++ addM (p + 1) (ws.take i)).length)), .ref 202]) (H' := _) (kc' := 0) (ks' := 0) rfl ?_
      refine RQ.get (ci := 12) rfl ((set_far (by decide)).trans ((set_far (by decide)).trans ((set_far (by decide)).trans ((set_far (by omega)).trans hm1)))) rfl rfl ?_
      refine RQ.blk 1 (pc' := 138) (lv' := [(4, .int (nI (eLen e))), (3, .int (nI (eLen e))), (2, .int (nI (32 * t + i))), (0, .ref 196), (1, .int (nI t))]) (st' := [.int (nI (32 * t + i)), .ref 212, .int (nI ((ms ++ addM (p + 1) (ws.take i)).length)), .ref 202]) (H' := _) (kc' := 0) (ks' := 0) rfl ?_
      refine RQ.ialdN (j := 32 * t + i) rfl ((set_far (by decide)).trans ((set_far (by decide)).trans ((set_far (by decide)).trans ((set_far (by omega)).trans hR1.2.2.2.2.1)))) (by omega) (by decide) ?_
      refine RQ.iastN (j := (ms ++ addM (p + 1) (ws.take i)).length) rfl ((set_far (by decide)).trans ((set_far (by decide)).trans ((set_far (by decide)).trans ((set_far (by omega)).trans hA.2.2.2.1)))) (by omega) (by decide) ?_
      rw [up_lI]
      refine RQ.blk 1 (pc' := 141) (lv' := [(4, .int (nI (eLen e))), (3, .int (nI (eLen e))), (2, .int (nI (32 * t + i))), (0, .ref 196), (1, .int (nI t))]) (st' := [.ref 196]) (H' := _) (kc' := 0) (ks' := 0) rfl ?_
      refine RQ.get (ci := 12) rfl ((set_far (by decide)).trans ((set_far (by decide)).trans ((set_far (by decide)).trans ((set_far (by decide)).trans ((set_far (by omega)).trans hm1))))) rfl rfl ?_
      refine RQ.blk 1 (pc' := 145) (lv' := [(4, .int (nI (eLen e))), (3, .int (nI (eLen e))), (2, .int (nI (32 * t + i))), (0, .ref 196), (1, .int (nI t))]) (st' := [.ref 196, .ref 203]) (H' := _) (kc' := 0) (ks' := 0) rfl ?_
      refine RQ.get (ci := 12) rfl ((set_far (by decide)).trans ((set_far (by decide)).trans ((set_far (by decide)).trans ((set_far (by decide)).trans ((set_far (by omega)).trans hm1))))) rfl rfl ?_
      refine RQ.blk 1 (pc' := 149) (lv' := [(4, .int (nI (eLen e))), (3, .int (nI (eLen e))), (2, .int (nI (32 * t + i))), (0, .ref 196), (1, .int (nI t))]) (st' := [.ref 196, .int (nI ((ms ++ addM (p + 1) (ws.take i)).length)), .ref 203]) (H' := _) (kc' := 0) (ks' := 0) rfl ?_
      refine RQ.get (ci := 12) rfl ((set_far (by decide)).trans ((set_far (by decide)).trans ((set_far (by decide)).trans ((set_far (by decide)).trans ((set_far (by omega)).trans hm1))))) rfl rfl ?_
      refine RQ.iastN (j := (ms ++ addM (p + 1) (ws.take i)).length) rfl ((set_far (by decide)).trans ((set_far (by decide)).trans ((set_far (by decide)).trans ((set_far (by decide)).trans ((set_far (by omega)).trans hA.2.2.2.2.1))))) (by omega) (by decide) ?_
      rw [up_nI]
      refine RQ.blk 2 (pc' := 155) (lv' := [(4, .int (nI (eLen e))), (3, .int (nI (eLen e))), (2, .int (nI (32 * t + i))), (0, .ref 196), (1, .int (nI t))]) (st' := [.ref 196, .ref 196]) (H' := _) (kc' := 0) (ks' := 0) rfl ?_
      refine RQ.get (ci := 12) rfl ((set_far (by decide)).trans ((set_far (by decide)).trans ((set_far (by decide)).trans ((set_far (by decide)).trans ((set_far (by decide)).trans ((set_far (by omega)).trans hm1)))))) rfl rfl ?_
      refine RQ.blk 2 (pc' := 160) (lv' := [(4, .int (nI (eLen e))), (3, .int (nI (eLen e))), (2, .int (nI (32 * t + i))), (0, .ref 196), (1, .int (nI t))]) (st' := [.int (nI us' + nI (eLen e)), .ref 196]) (H' := _) (kc' := 0) (ks' := 0) rfl ?_
      rw [show (nI us' + nI (eLen e) : Int32) = nI (us' + (eLen e)) from nI_add us' (eLen e)]
      refine RQ.put (ci := 12) rfl ((set_far (by decide)).trans ((set_far (by decide)).trans ((set_far (by decide)).trans ((set_far (by decide)).trans ((set_far (by decide)).trans ((set_far (by omega)).trans hm1)))))) rfl rfl (Nat.le_of_ble_eq_true rfl) ?_
      refine RQ.blk 2 (pc' := 165) (lv' := [(4, .int (nI (eLen e))), (3, .int (nI (eLen e))), (2, .int (nI (32 * t + i))), (0, .ref 196), (1, .int (nI t))]) (st' := [.ref 196, .ref 196]) (H' := _) (kc' := 0) (ks' := 0) rfl ?_
      refine RQ.get (ci := 12) rfl (get_set ((set_far (by decide)).trans ((set_far (by decide)).trans ((set_far (by decide)).trans ((set_far (by decide)).trans ((set_far (by decide)).trans ((set_far (by omega)).trans hm1))))))) rfl rfl ?_
      refine RQ.blk 2 (pc' := 170) (lv' := [(4, .int (nI (eLen e))), (3, .int (nI (eLen e))), (2, .int (nI (32 * t + i))), (0, .ref 196), (1, .int (nI t))]) (st' := [.int (nI ((ms ++ addM (p + 1) (ws.take i)).length) + 1), .ref 196]) (H' := _) (kc' := 0) (ks' := 0) rfl ?_
      rw [show (nI ((ms ++ addM (p + 1) (ws.take i)).length) + 1 : Int32) = nI ((ms ++ addM (p + 1) (ws.take i)).length + 1) from nI_add ((ms ++ addM (p + 1) (ws.take i)).length) 1]
      refine RQ.put (ci := 12) rfl (get_set ((set_far (by decide)).trans ((set_far (by decide)).trans ((set_far (by decide)).trans ((set_far (by decide)).trans ((set_far (by decide)).trans ((set_far (by omega)).trans hm1))))))) rfl rfl (Nat.le_of_ble_eq_true rfl) ?_
      refine RQ.blk 1 (pc' := 176) (lv' := [(2, .int (nI (32 * t + i) + 1)), (4, .int (nI (eLen e))), (3, .int (nI (eLen e))), (0, .ref 196), (1, .int (nI t))]) (st' := []) (H' := _) (kc' := 0) (ks' := 0) rfl ?_
      rw [show (nI (32 * t + i) + 1 : Int32) = nI (32 * t + i + 1) from nI_add (32 * t + i) 1]
      refine RQ.blk 1 (pc' := 15) (lv' := [(2, .int (nI (32 * t + i + 1))), (4, .int (nI (eLen e))), (3, .int (nI (eLen e))), (0, .ref 196), (1, .int (nI t))]) (st' := []) (H' := _) (kc' := 0) (ks' := 0) rfl ?_
      rw [show 32 * t + i + 1 = 32 * t + (i + 1) by omega]
      refine RQ.pick (a := [(2, .int (nI (32 * t + i + 1))), (0, .ref 196), (1, .int (nI t))]) [0, 3, 4] [2, 4, 3, 0, 1] rfl rfl (by decide) ?_
      refine ih (i + 1) _ ⟨by omega, ⟨us' + eLen e, ?_, ?_⟩, fun a h1 h2 => ?_⟩ (by omega)
      · refine (get_set (get_set ((set_far (by decide)).trans ((set_far (by decide)).trans ((set_far (by decide)).trans ((set_far (by decide)).trans ((set_far (by decide)).trans ((set_far (by omega)).trans hm1)))))))).trans ?_
        rw [addM_take he, ← List.append_assoc, List.length_append (bs := [_])]; rfl
      · rw [addM_take he, ← List.append_assoc]
        have hS := MVLay.snoc (wb := wb) (f := wk (32 * t + i)) (n1 := wn (32 * t + i)) (l := wz (32 * t + i)) (m := p + 1) hL f2 f3 (by rw [f1]; exact f4)
        rw [← hus] at hS
        refine ⟨⟨_, _, _, _, _, _, ⟨(set_far (by decide)).trans ((set_far (by decide)).trans ((set_far (by decide)).trans ((set_far (by decide)).trans ((set_far (by decide)).trans ((set_far (by decide)).trans (get_set ((set_far (by omega)).trans hA.1))))))), (set_far (by decide)).trans ((set_far (by decide)).trans ((set_far (by decide)).trans ((set_far (by decide)).trans ((set_far (by decide)).trans (get_set ((set_far (by decide)).trans ((set_far (by omega)).trans hA.2.1))))))), (set_far (by decide)).trans ((set_far (by decide)).trans ((set_far (by decide)).trans ((set_far (by decide)).trans (get_set ((set_far (by decide)).trans ((set_far (by decide)).trans ((set_far (by omega)).trans hA.2.2.1))))))), (set_far (by decide)).trans ((set_far (by decide)).trans ((set_far (by decide)).trans (get_set ((set_far (by decide)).trans ((set_far (by decide)).trans ((set_far (by decide)).trans ((set_far (by omega)).trans hA.2.2.2.1))))))), (set_far (by decide)).trans ((set_far (by decide)).trans (get_set ((set_far (by decide)).trans ((set_far (by decide)).trans ((set_far (by decide)).trans ((set_far (by decide)).trans ((set_far (by omega)).trans hA.2.2.2.2.1))))))), (set_far (by omega)).trans ((set_far (by omega)).trans ((set_far (by omega)).trans ((set_far (by omega)).trans ((set_far (by omega)).trans ((set_far (by omega)).trans ((set_far (by omega)).trans (get_set hA.2.2.2.2.2)))))))⟩, hS⟩, ?_, ?_, ?_, hbr⟩
        · rw [eOff_add, ← hus]; rfl
        · obtain ⟨ob, hob⟩ := hob; exact ⟨ob, ((set_far (by omega)).trans ((set_far (by omega)).trans ((set_far (by omega)).trans ((set_far (by omega)).trans ((set_far (by omega)).trans ((set_far (by omega)).trans ((set_far (by omega)).trans (set_far (by omega))))))))).trans hob⟩
        · obtain ⟨w0, hw0⟩ := hw0; exact ⟨w0, ((set_far (by omega)).trans ((set_far (by omega)).trans ((set_far (by omega)).trans ((set_far (by omega)).trans ((set_far (by omega)).trans ((set_far (by omega)).trans ((set_far (by omega)).trans (set_far (by omega))))))))).trans hw0⟩
      · exact ((set_far (by omega)).trans ((set_far (by omega)).trans ((set_far (by omega)).trans ((set_far (by omega)).trans ((set_far (by omega)).trans ((set_far (by omega)).trans ((set_far (by omega)).trans (set_far (by omega))))))))).trans (hfr a h1 h2)
    · have e : i = ws.length := by omega
      subst e
      refine RQ.blk 4 (pc' := 20) (lv' := [(2, .int (nI (32 * t + ws.length))), (0, .ref 196), (1, .int (nI t))]) (st' := [.int (32 * nI t), .int (nI (32 * t + ws.length))]) (H' := _) (kc' := 0) (ks' := 0) rfl ?_
      rw [show (32 * nI t : Int32) = nI (32 * t) from pk_mul 32 t]
      refine RQ.blk 1 (pc' := 21) (lv' := [(2, .int (nI (32 * t + ws.length))), (0, .ref 196), (1, .int (nI t))]) (st' := [.ref 196, .int (nI (32 * t)), .int (nI (32 * t + ws.length))]) (H' := _) (kc' := 0) (ks' := 0) rfl ?_
      refine RQ.get (ci := 12) rfl hm1 rfl rfl ?_
      refine RQ.blk 1 (pc' := 25) (lv' := [(2, .int (nI (32 * t + ws.length))), (0, .ref 196), (1, .int (nI t))]) (st' := [.int (nI t), .ref 208, .int (nI (32 * t)), .int (nI (32 * t + ws.length))]) (H' := _) (kc' := 0) (ks' := 0) rfl ?_
      refine RQ.ialdN (j := t) rfl g7 (by omega) (by decide) ?_
      refine RQ.blk 1 (pc' := 27) (lv' := [(2, .int (nI (32 * t + ws.length))), (0, .ref 196), (1, .int (nI t))]) (st' := [.int (nI (32 * t) + nI (ro t)), .int (nI (32 * t + ws.length))]) (H' := _) (kc' := 0) (ks' := 0) rfl ?_
      rw [show (nI (32 * t) + nI (ro t) : Int32) = nI (32 * t + (ro t)) from nI_add (32 * t) (ro t)]
      refine RQ.brT rfl rfl rfl (cT_ge (32 * t + ws.length) (32 * t + ro t)) ?_
      exact RQ.done (c := 0) (s := 0) rfl rfl rfl rfl ⟨_, rfl, ⟨us', by rw [List.take_of_length_le (Nat.le_refl _)] at hm1; exact hm1, by rw [List.take_of_length_le (Nat.le_refl _)] at hI1; exact hI1⟩, hfr⟩
  · refine (get_set hm).trans ?_
    rw [show ms ++ addM (p + 1) (ws.take 0) = ms from List.append_nil ms]
    rfl
  · rw [show ms ++ addM (p + 1) (ws.take 0) = ms from List.append_nil ms]
    exact hI.far (fun a h1 h2 => set_far (by omega)) (set_far (by decide))
